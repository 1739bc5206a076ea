section CG
variable {S : gSt} {h : tm_Hp} {t l ol : Int32} {f : Nat → Int32} {g : Nat}
theorem gYd.ok {j : Nat} (x : gYd S h) (hj : j < 3) : gOk (S.1 j) (S.2.1 j) (S.2.2 j) := by
  obtain ⟨_, _, _, _, _, _, a4⟩ := x
  exact (a4 j hj).2.1
/-- the vertex asked for, if one is -/
def gVq (n : Nat) (v w : Int32) (C : (Nat → Nat) → Prop) : Prop := (v < 0 ∧ ∀ r, C r) ∨ ∃ v' w', v' < n ∧ w' < 7 ∧ v = nI v' ∧ w = nI w' ∧ ∀ r, C r ↔ r v' = w'
set_option maxRecDepth 20000 in
theorem c_R_count {s : Nat} {v w : Int32} {C : (Nat → Nat) → Prop} (h0 : h 27 = tm_o 5 [.int t, .ref 28, .ref 29, .ref 30, .ref 31, .ref 32, .int l, .ref 33, .int ol, .ref 34, .ref 35, .ref 36, .ref 37]) (hd : gYd S h) (hr : h 31 = tm_i 7 f) (hg : g < 3) (hs : s < 2 ^ S.1 g) (hC : gVq (S.1 g) v w C) :
    tm_C M_R_count 2 0 [.ref 27, .int (nI g), .int (nI s), .int v, .int w] h (fun z k => z = .inl (some (.int (nI (gCt (S.1 g) (fun r => gAs (S.1 g) (S.2.1 g) (S.2.2 g) s r ∧ C r))))) ∧ ∃ f', k = tm_up h 31 (tm_i 7 f')) := by
  refine tm_C.by (L := [some (.ref 27), some (.int (nI g)), some (.int (nI s)), some (.int v), some (.int w), none, none, none]) rfl rfl rfl rfl rfl ?_
  obtain ⟨sz, y1, y2, y3⟩ := hd.sz hg
  have hok := hd.ok hg
  have hs7 : s < 128 := g2p y3 hs
  have e8 : ¬ bI true = 0 := by decide
  have hP : gRsp (S.1 g) (fun r => gAs (S.1 g) (S.2.1 g) (S.2.2 g) s r ∧ C r) := by
    intro r r' e ⟨a, b⟩
    refine ⟨gAs_rsp r r' e a, ?_⟩
    rcases hC with ⟨_, c⟩ | ⟨v', w', c1, c2, c3, c4, c5⟩
    · exact c r'
    · rw [c5] at b ⊢; rw [← e v' c1]; exact b
  generalize hPP : (fun r => gAs (S.1 g) (S.2.1 g) (S.2.2 g) s r ∧ C r) = P at *
  obtain ⟨Q, hQ⟩ : ∃ Q : tm_O → tm_Hp → Prop, Q = (fun z k => z = .inl (some (.int (nI (gCt (S.1 g) P)))) ∧ ∃ f', k = tm_up h 31 (tm_i 7 f')) := ⟨_, rfl⟩
  rw [← hQ]
  apply tm_run [10] 80
  simp (disch := first | assumption | omega) only [↓reduceIte, tm_w_i, tm_w_0, Bool.false_eq_true, tm_gI_0, tm_gI_s, tm_gA_0, tm_gA_s, tm_fv_0, tm_fv_s, tm_p1_e, tm_pA_e, tm_pJ_e, tm_pV_i, tm_pV_r, tm_cI_e, tm_cZ_e, tm_cJ_e, tm_cQ_e, tm_cO_e, tm_rq_e, List.set_cons_zero, List.set_cons_succ, List.contains_cons, List.contains_nil, Nat.reduceBEq, Bool.or_false, Bool.false_or, Bool.or_true, Bool.true_or, Bool.or_self, cond_true, cond_false, true_and, and_true, or_true, true_or, true_implies, false_implies, not_true_eq_false, not_false_eq_true, List.length_cons, List.length_nil, Option.toList_some, Option.toList_none, List.cons_append, List.nil_append, ws_R_count_0, ws_R_count_1, ws_R_count_4, ws_R_count_5, ws_R_count_7, ws_R_count_8, ws_R_count_10, ws_R_count_12, ws_R_count_15, ws_R_count_16, ws_R_count_19, ws_R_count_20, ws_R_count_23, ws_R_count_24, ws_R_count_25, ws_R_count_27, ws_R_count_30, ws_R_count_31, ws_R_count_32, ws_R_count_35, ws_R_count_38, ws_R_count_39, ws_R_count_42, ws_R_count_43, ws_R_count_45, ws_R_count_47, ws_R_count_50, ws_R_count_51, ws_R_count_52, ws_R_count_55, ws_R_count_58, ws_R_count_60, ws_R_count_61, ws_R_count_62, ws_R_count_65, ws_R_count_67, ws_R_count_69, ws_R_count_70, ws_R_count_71, ws_R_count_74, ws_R_count_75, ws_R_count_76, ws_R_count_79, ws_R_count_81, ws_R_count_84, ws_R_count_86, tm_up_s, tm_up_n, tm_up_up, nI_leI, nI_ltI, nI_eq, nI_cl, nI_in', ix_1shl, ix_or, ix_xor, nI_1, bI_0, bI_1, bI_F, pk_us, pk_un]
  refine kd_R_count_1 h0 (Nat.le_of_ble_eq_true rfl) (by omega) (by omega) (c_R_begin h0 hr) ?_
  apply tm_run [10] 80
  simp (disch := first | assumption | omega) only [↓reduceIte, tm_w_i, tm_w_0, Bool.false_eq_true, tm_gI_0, tm_gI_s, tm_gA_0, tm_gA_s, tm_fv_0, tm_fv_s, tm_p1_e, tm_pA_e, tm_pJ_e, tm_pV_i, tm_pV_r, tm_cI_e, tm_cZ_e, tm_cJ_e, tm_cQ_e, tm_cO_e, tm_rq_e, List.set_cons_zero, List.set_cons_succ, List.contains_cons, List.contains_nil, Nat.reduceBEq, Bool.or_false, Bool.false_or, Bool.or_true, Bool.true_or, Bool.or_self, cond_true, cond_false, true_and, and_true, or_true, true_or, true_implies, false_implies, not_true_eq_false, not_false_eq_true, List.length_cons, List.length_nil, Option.toList_some, Option.toList_none, List.cons_append, List.nil_append, ws_R_count_0, ws_R_count_1, ws_R_count_4, ws_R_count_5, ws_R_count_7, ws_R_count_8, ws_R_count_10, ws_R_count_12, ws_R_count_15, ws_R_count_16, ws_R_count_19, ws_R_count_20, ws_R_count_23, ws_R_count_24, ws_R_count_25, ws_R_count_27, ws_R_count_30, ws_R_count_31, ws_R_count_32, ws_R_count_35, ws_R_count_38, ws_R_count_39, ws_R_count_42, ws_R_count_43, ws_R_count_45, ws_R_count_47, ws_R_count_50, ws_R_count_51, ws_R_count_52, ws_R_count_55, ws_R_count_58, ws_R_count_60, ws_R_count_61, ws_R_count_62, ws_R_count_65, ws_R_count_67, ws_R_count_69, ws_R_count_70, ws_R_count_71, ws_R_count_74, ws_R_count_75, ws_R_count_76, ws_R_count_79, ws_R_count_81, ws_R_count_84, ws_R_count_86, tm_up_s, tm_up_n, tm_up_up, nI_leI, nI_ltI, nI_eq, nI_cl, nI_in', ix_1shl, ix_or, ix_xor, nI_1, bI_0, bI_1, bI_F, pk_us, pk_un]
  have key : ∀ (F : Nat) (r : Nat → Nat) (f : Nat → Int32) (x : Option Value), 8 ^ S.1 g ≤ gVl r (S.1 g) + F → gRw (S.1 g) r f → tm_T M_R_count 2 0 Q 0 10 [some (.ref 27), some (.int (nI g)), some (.int (nI s)), some (.int v), some (.int w), some (.int (nI (gS (gOne (gHas (S.1 g) P)) (gVl r (S.1 g))))), some (.int (bI true)), x] [] (tm_up h 31 (tm_i 7 f)) := by
    intro F
    induction F with
    | zero =>
      intro r f x hF hw
      have := gVl_lt (gp_8 y3 hw.1)
      omega
    | succ F ih =>
      intro r f x hF hw
      have H27 : (tm_up h 31 (tm_i 7 f)) 27 = tm_o 5 [.int t, .ref 28, .ref 29, .ref 30, .ref 31, .ref 32, .int l, .ref 33, .int ol, .ref 34, .ref 35, .ref 36, .ref 37] := (tm_up_n (by decide)).trans h0
      have Hd : gYd S (tm_up h 31 (tm_i 7 f)) := hd.fr (fun k hk => tm_up_n (by omega))
      have H28 : (tm_up h 31 (tm_i 7 f)) 28 = tm_i 3 sz := (tm_up_n (by decide)).trans y1
      have H31 := tm_up_s h 31 (tm_i 7 f)
      have tail : ∀ y, tm_T M_R_count 2 0 Q 0 69 [some (.ref 27), some (.int (nI g)), some (.int (nI s)), some (.int v), some (.int w), some (.int (nI (gS (gOne (gHas (S.1 g) P)) (gVl r (S.1 g) + 1)))), some (.int (bI true)), y] [] (tm_up h 31 (tm_i 7 f)) := by
        intro y
        apply tm_run [10] 80
        simp (disch := first | assumption | omega) only [↓reduceIte, tm_w_i, tm_w_0, Bool.false_eq_true, tm_gI_0, tm_gI_s, tm_gA_0, tm_gA_s, tm_fv_0, tm_fv_s, tm_p1_e, tm_pA_e, tm_pJ_e, tm_pV_i, tm_pV_r, tm_cI_e, tm_cZ_e, tm_cJ_e, tm_cQ_e, tm_cO_e, tm_rq_e, List.set_cons_zero, List.set_cons_succ, List.contains_cons, List.contains_nil, Nat.reduceBEq, Bool.or_false, Bool.false_or, Bool.or_true, Bool.true_or, Bool.or_self, cond_true, cond_false, true_and, and_true, or_true, true_or, true_implies, false_implies, not_true_eq_false, not_false_eq_true, List.length_cons, List.length_nil, Option.toList_some, Option.toList_none, List.cons_append, List.nil_append, ws_R_count_0, ws_R_count_1, ws_R_count_4, ws_R_count_5, ws_R_count_7, ws_R_count_8, ws_R_count_10, ws_R_count_12, ws_R_count_15, ws_R_count_16, ws_R_count_19, ws_R_count_20, ws_R_count_23, ws_R_count_24, ws_R_count_25, ws_R_count_27, ws_R_count_30, ws_R_count_31, ws_R_count_32, ws_R_count_35, ws_R_count_38, ws_R_count_39, ws_R_count_42, ws_R_count_43, ws_R_count_45, ws_R_count_47, ws_R_count_50, ws_R_count_51, ws_R_count_52, ws_R_count_55, ws_R_count_58, ws_R_count_60, ws_R_count_61, ws_R_count_62, ws_R_count_65, ws_R_count_67, ws_R_count_69, ws_R_count_70, ws_R_count_71, ws_R_count_74, ws_R_count_75, ws_R_count_76, ws_R_count_79, ws_R_count_81, ws_R_count_84, ws_R_count_86, tm_up_s, tm_up_n, tm_up_up, nI_leI, nI_ltI, nI_eq, nI_cl, nI_in', ix_1shl, ix_or, ix_xor, nI_1, bI_0, bI_1, bI_F, pk_us, pk_un, h0, y1, y2]
        refine kc_R_count_76 H27 (Nat.le_of_ble_eq_true rfl) (by omega) (by omega) (c_R_next H27 H31 y3 hw) ?_ (fun k h1 ⟨_, _, e, _⟩ => nomatch e)
        rintro v0 hh ⟨b, f', z1, z2, z3⟩
        cases z1
        rw [tm_up_up] at z2
        subst z2
        cases b with
        | false =>
          apply tm_run [10] 80
          simp (disch := first | assumption | omega) only [↓reduceIte, tm_w_i, tm_w_0, Bool.false_eq_true, tm_gI_0, tm_gI_s, tm_gA_0, tm_gA_s, tm_fv_0, tm_fv_s, tm_p1_e, tm_pA_e, tm_pJ_e, tm_pV_i, tm_pV_r, tm_cI_e, tm_cZ_e, tm_cJ_e, tm_cQ_e, tm_cO_e, tm_rq_e, List.set_cons_zero, List.set_cons_succ, List.contains_cons, List.contains_nil, Nat.reduceBEq, Bool.or_false, Bool.false_or, Bool.or_true, Bool.true_or, Bool.or_self, cond_true, cond_false, true_and, and_true, or_true, true_or, true_implies, false_implies, not_true_eq_false, not_false_eq_true, List.length_cons, List.length_nil, Option.toList_some, Option.toList_none, List.cons_append, List.nil_append, ws_R_count_0, ws_R_count_1, ws_R_count_4, ws_R_count_5, ws_R_count_7, ws_R_count_8, ws_R_count_10, ws_R_count_12, ws_R_count_15, ws_R_count_16, ws_R_count_19, ws_R_count_20, ws_R_count_23, ws_R_count_24, ws_R_count_25, ws_R_count_27, ws_R_count_30, ws_R_count_31, ws_R_count_32, ws_R_count_35, ws_R_count_38, ws_R_count_39, ws_R_count_42, ws_R_count_43, ws_R_count_45, ws_R_count_47, ws_R_count_50, ws_R_count_51, ws_R_count_52, ws_R_count_55, ws_R_count_58, ws_R_count_60, ws_R_count_61, ws_R_count_62, ws_R_count_65, ws_R_count_67, ws_R_count_69, ws_R_count_70, ws_R_count_71, ws_R_count_74, ws_R_count_75, ws_R_count_76, ws_R_count_79, ws_R_count_81, ws_R_count_84, ws_R_count_86, tm_up_s, tm_up_n, tm_up_up, nI_leI, nI_ltI, nI_eq, nI_cl, nI_in', ix_1shl, ix_or, ix_xor, nI_1, bI_0, bI_1, bI_F, pk_us, pk_un]
          apply tm_run [10] 80
          simp (disch := first | assumption | omega) only [↓reduceIte, tm_w_i, tm_w_0, Bool.false_eq_true, tm_gI_0, tm_gI_s, tm_gA_0, tm_gA_s, tm_fv_0, tm_fv_s, tm_p1_e, tm_pA_e, tm_pJ_e, tm_pV_i, tm_pV_r, tm_cI_e, tm_cZ_e, tm_cJ_e, tm_cQ_e, tm_cO_e, tm_rq_e, List.set_cons_zero, List.set_cons_succ, List.contains_cons, List.contains_nil, Nat.reduceBEq, Bool.or_false, Bool.false_or, Bool.or_true, Bool.true_or, Bool.or_self, cond_true, cond_false, true_and, and_true, or_true, true_or, true_implies, false_implies, not_true_eq_false, not_false_eq_true, List.length_cons, List.length_nil, Option.toList_some, Option.toList_none, List.cons_append, List.nil_append, ws_R_count_0, ws_R_count_1, ws_R_count_4, ws_R_count_5, ws_R_count_7, ws_R_count_8, ws_R_count_10, ws_R_count_12, ws_R_count_15, ws_R_count_16, ws_R_count_19, ws_R_count_20, ws_R_count_23, ws_R_count_24, ws_R_count_25, ws_R_count_27, ws_R_count_30, ws_R_count_31, ws_R_count_32, ws_R_count_35, ws_R_count_38, ws_R_count_39, ws_R_count_42, ws_R_count_43, ws_R_count_45, ws_R_count_47, ws_R_count_50, ws_R_count_51, ws_R_count_52, ws_R_count_55, ws_R_count_58, ws_R_count_60, ws_R_count_61, ws_R_count_62, ws_R_count_65, ws_R_count_67, ws_R_count_69, ws_R_count_70, ws_R_count_71, ws_R_count_74, ws_R_count_75, ws_R_count_76, ws_R_count_79, ws_R_count_81, ws_R_count_84, ws_R_count_86, tm_up_s, tm_up_n, tm_up_up, nI_leI, nI_ltI, nI_eq, nI_cl, nI_in', ix_1shl, ix_or, ix_xor, nI_1, bI_0, bI_1, bI_F, pk_us, pk_un, bI_f]
          rw [hQ, gS_last y3 hw.1 (z3.1 rfl).2]
          exact ⟨rfl, f', rfl⟩
        | true =>
          obtain ⟨r', i, j, q1, q2⟩ := z3.2 rfl
          apply tm_run [10] 80
          simp (disch := first | assumption | omega) only [↓reduceIte, tm_w_i, tm_w_0, Bool.false_eq_true, tm_gI_0, tm_gI_s, tm_gA_0, tm_gA_s, tm_fv_0, tm_fv_s, tm_p1_e, tm_pA_e, tm_pJ_e, tm_pV_i, tm_pV_r, tm_cI_e, tm_cZ_e, tm_cJ_e, tm_cQ_e, tm_cO_e, tm_rq_e, List.set_cons_zero, List.set_cons_succ, List.contains_cons, List.contains_nil, Nat.reduceBEq, Bool.or_false, Bool.false_or, Bool.or_true, Bool.true_or, Bool.or_self, cond_true, cond_false, true_and, and_true, or_true, true_or, true_implies, false_implies, not_true_eq_false, not_false_eq_true, List.length_cons, List.length_nil, Option.toList_some, Option.toList_none, List.cons_append, List.nil_append, ws_R_count_0, ws_R_count_1, ws_R_count_4, ws_R_count_5, ws_R_count_7, ws_R_count_8, ws_R_count_10, ws_R_count_12, ws_R_count_15, ws_R_count_16, ws_R_count_19, ws_R_count_20, ws_R_count_23, ws_R_count_24, ws_R_count_25, ws_R_count_27, ws_R_count_30, ws_R_count_31, ws_R_count_32, ws_R_count_35, ws_R_count_38, ws_R_count_39, ws_R_count_42, ws_R_count_43, ws_R_count_45, ws_R_count_47, ws_R_count_50, ws_R_count_51, ws_R_count_52, ws_R_count_55, ws_R_count_58, ws_R_count_60, ws_R_count_61, ws_R_count_62, ws_R_count_65, ws_R_count_67, ws_R_count_69, ws_R_count_70, ws_R_count_71, ws_R_count_74, ws_R_count_75, ws_R_count_76, ws_R_count_79, ws_R_count_81, ws_R_count_84, ws_R_count_86, tm_up_s, tm_up_n, tm_up_up, nI_leI, nI_ltI, nI_eq, nI_cl, nI_in', ix_1shl, ix_or, ix_xor, nI_1, bI_0, bI_1, bI_F, pk_us, pk_un]
          have hl := gVl_less (gp_8 y3 hw.1) (gp_nx_lt q2)
          have := ih r' f' y (by omega) q1
          rw [gS_nx y3 hw.1 q2] at this
          exact this
      have yes : P r → ∀ y, tm_T M_R_count 2 0 Q 0 69 [some (.ref 27), some (.int (nI g)), some (.int (nI s)), some (.int v), some (.int w), some (.int (nI (gS (gOne (gHas (S.1 g) P)) (gVl r (S.1 g)) + 1))), some (.int (bI true)), y] [] (tm_up h 31 (tm_i 7 f)) := by
        intro hp y
        have := tail y
        rw [gS, gOne_t ((gHas_at y3 hP hw.1).mpr hp)] at this
        exact this
      have no : ¬ P r → ∀ y, tm_T M_R_count 2 0 Q 0 69 [some (.ref 27), some (.int (nI g)), some (.int (nI s)), some (.int v), some (.int w), some (.int (nI (gS (gOne (gHas (S.1 g) P)) (gVl r (S.1 g))))), some (.int (bI true)), y] [] (tm_up h 31 (tm_i 7 f)) := by
        intro hp y
        have := tail y
        rw [gS, gOne_f (fun q => hp ((gHas_at y3 hP hw.1).mp q)), Nat.add_zero] at this
        exact this
      have mid : C r → tm_T M_R_count 2 0 Q 0 30 [some (.ref 27), some (.int (nI g)), some (.int (nI s)), some (.int v), some (.int w), some (.int (nI (gS (gOne (gHas (S.1 g) P)) (gVl r (S.1 g))))), some (.int (bI true)), x] [] (tm_up h 31 (tm_i 7 f)) := by
        intro hc
        apply tm_run [10, 69] 80
        simp (disch := first | assumption | omega) only [↓reduceIte, tm_w_i, tm_w_0, Bool.false_eq_true, tm_gI_0, tm_gI_s, tm_gA_0, tm_gA_s, tm_fv_0, tm_fv_s, tm_p1_e, tm_pA_e, tm_pJ_e, tm_pV_i, tm_pV_r, tm_cI_e, tm_cZ_e, tm_cJ_e, tm_cQ_e, tm_cO_e, tm_rq_e, List.set_cons_zero, List.set_cons_succ, List.contains_cons, List.contains_nil, Nat.reduceBEq, Bool.or_false, Bool.false_or, Bool.or_true, Bool.true_or, Bool.or_self, cond_true, cond_false, true_and, and_true, or_true, true_or, true_implies, false_implies, not_true_eq_false, not_false_eq_true, List.length_cons, List.length_nil, Option.toList_some, Option.toList_none, List.cons_append, List.nil_append, ws_R_count_0, ws_R_count_1, ws_R_count_4, ws_R_count_5, ws_R_count_7, ws_R_count_8, ws_R_count_10, ws_R_count_12, ws_R_count_15, ws_R_count_16, ws_R_count_19, ws_R_count_20, ws_R_count_23, ws_R_count_24, ws_R_count_25, ws_R_count_27, ws_R_count_30, ws_R_count_31, ws_R_count_32, ws_R_count_35, ws_R_count_38, ws_R_count_39, ws_R_count_42, ws_R_count_43, ws_R_count_45, ws_R_count_47, ws_R_count_50, ws_R_count_51, ws_R_count_52, ws_R_count_55, ws_R_count_58, ws_R_count_60, ws_R_count_61, ws_R_count_62, ws_R_count_65, ws_R_count_67, ws_R_count_69, ws_R_count_70, ws_R_count_71, ws_R_count_74, ws_R_count_75, ws_R_count_76, ws_R_count_79, ws_R_count_81, ws_R_count_84, ws_R_count_86, tm_up_s, tm_up_n, tm_up_up, nI_leI, nI_ltI, nI_eq, nI_cl, nI_in', ix_1shl, ix_or, ix_xor, nI_1, bI_0, bI_1, bI_F, pk_us, pk_un]
        refine kc_R_count_32 H27 (Nat.le_of_ble_eq_true rfl) (by omega) (by omega) (c_R_keeps H27 H31 y3 hs7 hw) ?_ (fun k h1 ⟨⟨_, _, e⟩, _⟩ => nomatch e)
        rintro v0 hh ⟨⟨b, b1, b2⟩, b3⟩
        cases b2; cases b3
        cases b with
        | false =>
          have hn : ¬ P r := fun q => by
            rw [← hPP] at q
            refine absurd (b1.mpr (fun i hi hb => ?_)) (by decide)
            by_cases z : i < S.1 g
            · exact q.1.2 i z hb
            · exact hw.2.2 i (by omega) hi
          apply tm_run [10, 69] 80
          simp (disch := first | assumption | omega) only [↓reduceIte, tm_w_i, tm_w_0, Bool.false_eq_true, tm_gI_0, tm_gI_s, tm_gA_0, tm_gA_s, tm_fv_0, tm_fv_s, tm_p1_e, tm_pA_e, tm_pJ_e, tm_pV_i, tm_pV_r, tm_cI_e, tm_cZ_e, tm_cJ_e, tm_cQ_e, tm_cO_e, tm_rq_e, List.set_cons_zero, List.set_cons_succ, List.contains_cons, List.contains_nil, Nat.reduceBEq, Bool.or_false, Bool.false_or, Bool.or_true, Bool.true_or, Bool.or_self, cond_true, cond_false, true_and, and_true, or_true, true_or, true_implies, false_implies, not_true_eq_false, not_false_eq_true, List.length_cons, List.length_nil, Option.toList_some, Option.toList_none, List.cons_append, List.nil_append, ws_R_count_0, ws_R_count_1, ws_R_count_4, ws_R_count_5, ws_R_count_7, ws_R_count_8, ws_R_count_10, ws_R_count_12, ws_R_count_15, ws_R_count_16, ws_R_count_19, ws_R_count_20, ws_R_count_23, ws_R_count_24, ws_R_count_25, ws_R_count_27, ws_R_count_30, ws_R_count_31, ws_R_count_32, ws_R_count_35, ws_R_count_38, ws_R_count_39, ws_R_count_42, ws_R_count_43, ws_R_count_45, ws_R_count_47, ws_R_count_50, ws_R_count_51, ws_R_count_52, ws_R_count_55, ws_R_count_58, ws_R_count_60, ws_R_count_61, ws_R_count_62, ws_R_count_65, ws_R_count_67, ws_R_count_69, ws_R_count_70, ws_R_count_71, ws_R_count_74, ws_R_count_75, ws_R_count_76, ws_R_count_79, ws_R_count_81, ws_R_count_84, ws_R_count_86, tm_up_s, tm_up_n, tm_up_up, nI_leI, nI_ltI, nI_eq, nI_cl, nI_in', ix_1shl, ix_or, ix_xor, nI_1, bI_0, bI_1, bI_F, pk_us, pk_un, bI_f]
          exact no hn _
        | true =>
          have hk := b1.mp rfl
          have e1 : ¬ (1 : Int32) = 0 := by decide
          apply tm_run [10, 69] 80
          simp (disch := first | assumption | omega) only [↓reduceIte, tm_w_i, tm_w_0, Bool.false_eq_true, tm_gI_0, tm_gI_s, tm_gA_0, tm_gA_s, tm_fv_0, tm_fv_s, tm_p1_e, tm_pA_e, tm_pJ_e, tm_pV_i, tm_pV_r, tm_cI_e, tm_cZ_e, tm_cJ_e, tm_cQ_e, tm_cO_e, tm_rq_e, List.set_cons_zero, List.set_cons_succ, List.contains_cons, List.contains_nil, Nat.reduceBEq, Bool.or_false, Bool.false_or, Bool.or_true, Bool.true_or, Bool.or_self, cond_true, cond_false, true_and, and_true, or_true, true_or, true_implies, false_implies, not_true_eq_false, not_false_eq_true, List.length_cons, List.length_nil, Option.toList_some, Option.toList_none, List.cons_append, List.nil_append, ws_R_count_0, ws_R_count_1, ws_R_count_4, ws_R_count_5, ws_R_count_7, ws_R_count_8, ws_R_count_10, ws_R_count_12, ws_R_count_15, ws_R_count_16, ws_R_count_19, ws_R_count_20, ws_R_count_23, ws_R_count_24, ws_R_count_25, ws_R_count_27, ws_R_count_30, ws_R_count_31, ws_R_count_32, ws_R_count_35, ws_R_count_38, ws_R_count_39, ws_R_count_42, ws_R_count_43, ws_R_count_45, ws_R_count_47, ws_R_count_50, ws_R_count_51, ws_R_count_52, ws_R_count_55, ws_R_count_58, ws_R_count_60, ws_R_count_61, ws_R_count_62, ws_R_count_65, ws_R_count_67, ws_R_count_69, ws_R_count_70, ws_R_count_71, ws_R_count_74, ws_R_count_75, ws_R_count_76, ws_R_count_79, ws_R_count_81, ws_R_count_84, ws_R_count_86, tm_up_s, tm_up_n, tm_up_up, nI_leI, nI_ltI, nI_eq, nI_cl, nI_in', ix_1shl, ix_or, ix_xor, nI_1, bI_0, bI_1, bI_F, pk_us, pk_un, e8, e1]
          refine kc_R_count_52 H27 (Nat.le_of_ble_eq_true rfl) (by omega) (by omega) (c_R_lays H27 Hd H31 hg hw) ?_ (fun k h1 ⟨⟨_, _, e⟩, _⟩ => nomatch e)
          rintro v0 hh ⟨⟨b, b1, b2⟩, b3⟩
          cases b2; cases b3
          cases b with
          | false =>
            have hn : ¬ P r := fun q => by
              rw [← hPP] at q
              exact absurd (b1.mpr ((gLy_au hok hw.1).mpr q.1.1)) (by decide)
            apply tm_run [10, 69] 80
            simp (disch := first | assumption | omega) only [↓reduceIte, tm_w_i, tm_w_0, Bool.false_eq_true, tm_gI_0, tm_gI_s, tm_gA_0, tm_gA_s, tm_fv_0, tm_fv_s, tm_p1_e, tm_pA_e, tm_pJ_e, tm_pV_i, tm_pV_r, tm_cI_e, tm_cZ_e, tm_cJ_e, tm_cQ_e, tm_cO_e, tm_rq_e, List.set_cons_zero, List.set_cons_succ, List.contains_cons, List.contains_nil, Nat.reduceBEq, Bool.or_false, Bool.false_or, Bool.or_true, Bool.true_or, Bool.or_self, cond_true, cond_false, true_and, and_true, or_true, true_or, true_implies, false_implies, not_true_eq_false, not_false_eq_true, List.length_cons, List.length_nil, Option.toList_some, Option.toList_none, List.cons_append, List.nil_append, ws_R_count_0, ws_R_count_1, ws_R_count_4, ws_R_count_5, ws_R_count_7, ws_R_count_8, ws_R_count_10, ws_R_count_12, ws_R_count_15, ws_R_count_16, ws_R_count_19, ws_R_count_20, ws_R_count_23, ws_R_count_24, ws_R_count_25, ws_R_count_27, ws_R_count_30, ws_R_count_31, ws_R_count_32, ws_R_count_35, ws_R_count_38, ws_R_count_39, ws_R_count_42, ws_R_count_43, ws_R_count_45, ws_R_count_47, ws_R_count_50, ws_R_count_51, ws_R_count_52, ws_R_count_55, ws_R_count_58, ws_R_count_60, ws_R_count_61, ws_R_count_62, ws_R_count_65, ws_R_count_67, ws_R_count_69, ws_R_count_70, ws_R_count_71, ws_R_count_74, ws_R_count_75, ws_R_count_76, ws_R_count_79, ws_R_count_81, ws_R_count_84, ws_R_count_86, tm_up_s, tm_up_n, tm_up_up, nI_leI, nI_ltI, nI_eq, nI_cl, nI_in', ix_1shl, ix_or, ix_xor, nI_1, bI_0, bI_1, bI_F, pk_us, pk_un, bI_f]
            exact no hn _
          | true =>
            have hn : P r := by
              rw [← hPP]
              exact ⟨⟨(gLy_au hok hw.1).mp (b1.mp rfl), fun i hi hb => hk i (by omega) hb⟩, hc⟩
            apply tm_run [10, 69] 80
            simp (disch := first | assumption | omega) only [↓reduceIte, tm_w_i, tm_w_0, Bool.false_eq_true, tm_gI_0, tm_gI_s, tm_gA_0, tm_gA_s, tm_fv_0, tm_fv_s, tm_p1_e, tm_pA_e, tm_pJ_e, tm_pV_i, tm_pV_r, tm_cI_e, tm_cZ_e, tm_cJ_e, tm_cQ_e, tm_cO_e, tm_rq_e, List.set_cons_zero, List.set_cons_succ, List.contains_cons, List.contains_nil, Nat.reduceBEq, Bool.or_false, Bool.false_or, Bool.or_true, Bool.true_or, Bool.or_self, cond_true, cond_false, true_and, and_true, or_true, true_or, true_implies, false_implies, not_true_eq_false, not_false_eq_true, List.length_cons, List.length_nil, Option.toList_some, Option.toList_none, List.cons_append, List.nil_append, ws_R_count_0, ws_R_count_1, ws_R_count_4, ws_R_count_5, ws_R_count_7, ws_R_count_8, ws_R_count_10, ws_R_count_12, ws_R_count_15, ws_R_count_16, ws_R_count_19, ws_R_count_20, ws_R_count_23, ws_R_count_24, ws_R_count_25, ws_R_count_27, ws_R_count_30, ws_R_count_31, ws_R_count_32, ws_R_count_35, ws_R_count_38, ws_R_count_39, ws_R_count_42, ws_R_count_43, ws_R_count_45, ws_R_count_47, ws_R_count_50, ws_R_count_51, ws_R_count_52, ws_R_count_55, ws_R_count_58, ws_R_count_60, ws_R_count_61, ws_R_count_62, ws_R_count_65, ws_R_count_67, ws_R_count_69, ws_R_count_70, ws_R_count_71, ws_R_count_74, ws_R_count_75, ws_R_count_76, ws_R_count_79, ws_R_count_81, ws_R_count_84, ws_R_count_86, tm_up_s, tm_up_n, tm_up_up, nI_leI, nI_ltI, nI_eq, nI_cl, nI_in', ix_1shl, ix_or, ix_xor, nI_1, bI_0, bI_1, bI_F, pk_us, pk_un, e8]
            exact yes hn _
      rcases hC with ⟨c1, c2⟩ | ⟨v', w', c1, c2, rfl, rfl, c5⟩
      · have := mid (c2 r)
        apply tm_run [10, 69, 30] 80
        simp (disch := first | assumption | omega) only [↓reduceIte, tm_w_i, tm_w_0, Bool.false_eq_true, tm_gI_0, tm_gI_s, tm_gA_0, tm_gA_s, tm_fv_0, tm_fv_s, tm_p1_e, tm_pA_e, tm_pJ_e, tm_pV_i, tm_pV_r, tm_cI_e, tm_cZ_e, tm_cJ_e, tm_cQ_e, tm_cO_e, tm_rq_e, List.set_cons_zero, List.set_cons_succ, List.contains_cons, List.contains_nil, Nat.reduceBEq, Bool.or_false, Bool.false_or, Bool.or_true, Bool.true_or, Bool.or_self, cond_true, cond_false, true_and, and_true, or_true, true_or, true_implies, false_implies, not_true_eq_false, not_false_eq_true, List.length_cons, List.length_nil, Option.toList_some, Option.toList_none, List.cons_append, List.nil_append, ws_R_count_0, ws_R_count_1, ws_R_count_4, ws_R_count_5, ws_R_count_7, ws_R_count_8, ws_R_count_10, ws_R_count_12, ws_R_count_15, ws_R_count_16, ws_R_count_19, ws_R_count_20, ws_R_count_23, ws_R_count_24, ws_R_count_25, ws_R_count_27, ws_R_count_30, ws_R_count_31, ws_R_count_32, ws_R_count_35, ws_R_count_38, ws_R_count_39, ws_R_count_42, ws_R_count_43, ws_R_count_45, ws_R_count_47, ws_R_count_50, ws_R_count_51, ws_R_count_52, ws_R_count_55, ws_R_count_58, ws_R_count_60, ws_R_count_61, ws_R_count_62, ws_R_count_65, ws_R_count_67, ws_R_count_69, ws_R_count_70, ws_R_count_71, ws_R_count_74, ws_R_count_75, ws_R_count_76, ws_R_count_79, ws_R_count_81, ws_R_count_84, ws_R_count_86, tm_up_s, tm_up_n, tm_up_up, nI_leI, nI_ltI, nI_eq, nI_cl, nI_in', ix_1shl, ix_or, ix_xor, nI_1, bI_0, bI_1, bI_F, pk_us, pk_un, e8, c1]
        exact this
      · have hv0 : ¬ nI v' < 0 := nI_pos (by omega)
        have f1 := hw.2.1 v' (by omega)
        have r1 := hw.1.1 v' c1
        apply tm_run [10, 69, 30] 80
        simp (disch := first | assumption | omega) only [↓reduceIte, tm_w_i, tm_w_0, Bool.false_eq_true, tm_gI_0, tm_gI_s, tm_gA_0, tm_gA_s, tm_fv_0, tm_fv_s, tm_p1_e, tm_pA_e, tm_pJ_e, tm_pV_i, tm_pV_r, tm_cI_e, tm_cZ_e, tm_cJ_e, tm_cQ_e, tm_cO_e, tm_rq_e, List.set_cons_zero, List.set_cons_succ, List.contains_cons, List.contains_nil, Nat.reduceBEq, Bool.or_false, Bool.false_or, Bool.or_true, Bool.true_or, Bool.or_self, cond_true, cond_false, true_and, and_true, or_true, true_or, true_implies, false_implies, not_true_eq_false, not_false_eq_true, List.length_cons, List.length_nil, Option.toList_some, Option.toList_none, List.cons_append, List.nil_append, ws_R_count_0, ws_R_count_1, ws_R_count_4, ws_R_count_5, ws_R_count_7, ws_R_count_8, ws_R_count_10, ws_R_count_12, ws_R_count_15, ws_R_count_16, ws_R_count_19, ws_R_count_20, ws_R_count_23, ws_R_count_24, ws_R_count_25, ws_R_count_27, ws_R_count_30, ws_R_count_31, ws_R_count_32, ws_R_count_35, ws_R_count_38, ws_R_count_39, ws_R_count_42, ws_R_count_43, ws_R_count_45, ws_R_count_47, ws_R_count_50, ws_R_count_51, ws_R_count_52, ws_R_count_55, ws_R_count_58, ws_R_count_60, ws_R_count_61, ws_R_count_62, ws_R_count_65, ws_R_count_67, ws_R_count_69, ws_R_count_70, ws_R_count_71, ws_R_count_74, ws_R_count_75, ws_R_count_76, ws_R_count_79, ws_R_count_81, ws_R_count_84, ws_R_count_86, tm_up_s, tm_up_n, tm_up_up, nI_leI, nI_ltI, nI_eq, nI_cl, nI_in', ix_1shl, ix_or, ix_xor, nI_1, bI_0, bI_1, bI_F, pk_us, pk_un, e8, hv0, h0, f1]
        refine ⟨fun q => ?_, fun q => ?_⟩
        · have hn : ¬ P r := fun z => by
            rw [← hPP] at z
            exact q ((c5 r).mp z.2)
          exact no hn _
        · exact mid ((c5 r).mpr (Classical.byContradiction q))
  have := key (8 ^ S.1 g) (fun i => i) (gPr nI f 7) none (by omega) gRw_id
  rw [gS_first y3] at this
  exact this
set_option maxRecDepth 20000 in
theorem c_R_orbitOf {v : Nat} (h0 : h 27 = tm_o 5 [.int t, .ref 28, .ref 29, .ref 30, .ref 31, .ref 32, .int l, .ref 33, .int ol, .ref 34, .ref 35, .ref 36, .ref 37]) (hd : gYd S h) (hr : h 31 = tm_i 7 f) (hg : g < 3) (hv : v < S.1 g) :
    tm_C M_R_orbitOf 2 0 [.ref 27, .int (nI g), .int (nI v)] h (fun z k => z = .inl (some (.int (nI (gMk (gCa (S.1 g) (S.2.1 g) (S.2.2 g) 0 v) (S.1 g))))) ∧ ∃ f', k = tm_up h 31 (tm_i 7 f')) := by
  refine tm_C.by (L := [some (.ref 27), some (.int (nI g)), some (.int (nI v)), none, none]) rfl rfl rfl rfl rfl ?_
  obtain ⟨sz, y1, y2, y3⟩ := hd.sz hg
  have hok := hd.ok hg
  have e8 : ¬ bI true = 0 := by decide
  generalize hnn : S.1 g = n at *
  generalize hcc : S.2.1 g = cc at *
  generalize hnb : S.2.2 g = nb at *
  obtain ⟨Q, hQ⟩ : ∃ Q : tm_O → tm_Hp → Prop, Q = (fun z k => z = .inl (some (.int (nI (gMk (gCa n cc nb 0 v) n)))) ∧ ∃ f', k = tm_up h 31 (tm_i 7 f')) := ⟨_, rfl⟩
  rw [← hQ]
  apply tm_run [9] 80
  simp (disch := first | assumption | omega) only [↓reduceIte, tm_w_i, tm_w_0, Bool.false_eq_true, tm_gI_0, tm_gI_s, tm_gA_0, tm_gA_s, tm_fv_0, tm_fv_s, tm_p1_e, tm_pA_e, tm_pJ_e, tm_pV_i, tm_pV_r, tm_cI_e, tm_cZ_e, tm_cJ_e, tm_cQ_e, tm_cO_e, tm_rq_e, List.set_cons_zero, List.set_cons_succ, List.contains_cons, List.contains_nil, Nat.reduceBEq, Bool.or_false, Bool.false_or, Bool.or_true, Bool.true_or, Bool.or_self, cond_true, cond_false, true_and, and_true, or_true, true_or, true_implies, false_implies, not_true_eq_false, not_false_eq_true, List.length_cons, List.length_nil, Option.toList_some, Option.toList_none, List.cons_append, List.nil_append, ws_R_orbitOf_0, ws_R_orbitOf_1, ws_R_orbitOf_4, ws_R_orbitOf_5, ws_R_orbitOf_6, ws_R_orbitOf_7, ws_R_orbitOf_9, ws_R_orbitOf_11, ws_R_orbitOf_14, ws_R_orbitOf_15, ws_R_orbitOf_16, ws_R_orbitOf_19, ws_R_orbitOf_20, ws_R_orbitOf_21, ws_R_orbitOf_22, ws_R_orbitOf_23, ws_R_orbitOf_24, ws_R_orbitOf_27, ws_R_orbitOf_28, ws_R_orbitOf_29, ws_R_orbitOf_32, ws_R_orbitOf_35, ws_R_orbitOf_36, ws_R_orbitOf_37, ws_R_orbitOf_38, ws_R_orbitOf_41, ws_R_orbitOf_42, ws_R_orbitOf_43, ws_R_orbitOf_44, ws_R_orbitOf_45, ws_R_orbitOf_48, ws_R_orbitOf_49, ws_R_orbitOf_50, ws_R_orbitOf_51, ws_R_orbitOf_52, ws_R_orbitOf_55, ws_R_orbitOf_56, ws_R_orbitOf_57, ws_R_orbitOf_60, ws_R_orbitOf_62, ws_R_orbitOf_65, ws_R_orbitOf_66, tm_up_s, tm_up_n, tm_up_up, nI_leI, nI_ltI, nI_eq, nI_cl, nI_in', ix_1shl, ix_or, ix_xor, nI_1, bI_0, bI_1, bI_F, pk_us, pk_un]
  refine kd_R_orbitOf_1 h0 (Nat.le_of_ble_eq_true rfl) (by omega) (by omega) (c_R_begin h0 hr) ?_
  apply tm_run [9] 80
  simp (disch := first | assumption | omega) only [↓reduceIte, tm_w_i, tm_w_0, Bool.false_eq_true, tm_gI_0, tm_gI_s, tm_gA_0, tm_gA_s, tm_fv_0, tm_fv_s, tm_p1_e, tm_pA_e, tm_pJ_e, tm_pV_i, tm_pV_r, tm_cI_e, tm_cZ_e, tm_cJ_e, tm_cQ_e, tm_cO_e, tm_rq_e, List.set_cons_zero, List.set_cons_succ, List.contains_cons, List.contains_nil, Nat.reduceBEq, Bool.or_false, Bool.false_or, Bool.or_true, Bool.true_or, Bool.or_self, cond_true, cond_false, true_and, and_true, or_true, true_or, true_implies, false_implies, not_true_eq_false, not_false_eq_true, List.length_cons, List.length_nil, Option.toList_some, Option.toList_none, List.cons_append, List.nil_append, ws_R_orbitOf_0, ws_R_orbitOf_1, ws_R_orbitOf_4, ws_R_orbitOf_5, ws_R_orbitOf_6, ws_R_orbitOf_7, ws_R_orbitOf_9, ws_R_orbitOf_11, ws_R_orbitOf_14, ws_R_orbitOf_15, ws_R_orbitOf_16, ws_R_orbitOf_19, ws_R_orbitOf_20, ws_R_orbitOf_21, ws_R_orbitOf_22, ws_R_orbitOf_23, ws_R_orbitOf_24, ws_R_orbitOf_27, ws_R_orbitOf_28, ws_R_orbitOf_29, ws_R_orbitOf_32, ws_R_orbitOf_35, ws_R_orbitOf_36, ws_R_orbitOf_37, ws_R_orbitOf_38, ws_R_orbitOf_41, ws_R_orbitOf_42, ws_R_orbitOf_43, ws_R_orbitOf_44, ws_R_orbitOf_45, ws_R_orbitOf_48, ws_R_orbitOf_49, ws_R_orbitOf_50, ws_R_orbitOf_51, ws_R_orbitOf_52, ws_R_orbitOf_55, ws_R_orbitOf_56, ws_R_orbitOf_57, ws_R_orbitOf_60, ws_R_orbitOf_62, ws_R_orbitOf_65, ws_R_orbitOf_66, tm_up_s, tm_up_n, tm_up_up, nI_leI, nI_ltI, nI_eq, nI_cl, nI_in', ix_1shl, ix_or, ix_xor, nI_1, bI_0, bI_1, bI_F, pk_us, pk_un, i_0]
  have key : ∀ (F : Nat) (r : Nat → Nat) (f : Nat → Int32) (s : Nat), 8 ^ n ≤ gVl r n + F → gRw n r f → s < 2 ^ n → (∀ w, w < n → (s.testBit w = true ↔ ∃ q, gAu n cc nb q ∧ gp_lt n q r ∧ q v = w)) → tm_T M_R_orbitOf 2 0 Q 0 9 [some (.ref 27), some (.int (nI g)), some (.int (nI v)), some (.int (nI s)), some (.int (bI true))] [] (tm_up h 31 (tm_i 7 f)) := by
    intro F
    induction F with
    | zero =>
      intro r f s hF hw
      have := gVl_lt (gp_8 y3 hw.1)
      omega
    | succ F ih =>
      intro r f s hF hw hs hb
      have H27 : (tm_up h 31 (tm_i 7 f)) 27 = tm_o 5 [.int t, .ref 28, .ref 29, .ref 30, .ref 31, .ref 32, .int l, .ref 33, .int ol, .ref 34, .ref 35, .ref 36, .ref 37] := (tm_up_n (by decide)).trans h0
      have Hd : gYd S (tm_up h 31 (tm_i 7 f)) := hd.fr (fun k hk => tm_up_n (by omega))
      have H28 : (tm_up h 31 (tm_i 7 f)) 28 = tm_i 3 sz := (tm_up_n (by decide)).trans y1
      have H31 := tm_up_s h 31 (tm_i 7 f)
      have hw' : gRw (S.1 g) r f := by rw [hnn]; exact hw
      have tail : ∀ s, s < 2 ^ n → (∀ w, w < n → (s.testBit w = true ↔ ∃ q, gAu n cc nb q ∧ (gp_lt n q r ∨ gp_eq n q r) ∧ q v = w)) → tm_T M_R_orbitOf 2 0 Q 0 50 [some (.ref 27), some (.int (nI g)), some (.int (nI v)), some (.int (nI s)), some (.int (bI true))] [] (tm_up h 31 (tm_i 7 f)) := by
        intro s hs hb
        apply tm_run [9] 80
        simp (disch := first | assumption | omega) only [↓reduceIte, tm_w_i, tm_w_0, Bool.false_eq_true, tm_gI_0, tm_gI_s, tm_gA_0, tm_gA_s, tm_fv_0, tm_fv_s, tm_p1_e, tm_pA_e, tm_pJ_e, tm_pV_i, tm_pV_r, tm_cI_e, tm_cZ_e, tm_cJ_e, tm_cQ_e, tm_cO_e, tm_rq_e, List.set_cons_zero, List.set_cons_succ, List.contains_cons, List.contains_nil, Nat.reduceBEq, Bool.or_false, Bool.false_or, Bool.or_true, Bool.true_or, Bool.or_self, cond_true, cond_false, true_and, and_true, or_true, true_or, true_implies, false_implies, not_true_eq_false, not_false_eq_true, List.length_cons, List.length_nil, Option.toList_some, Option.toList_none, List.cons_append, List.nil_append, ws_R_orbitOf_0, ws_R_orbitOf_1, ws_R_orbitOf_4, ws_R_orbitOf_5, ws_R_orbitOf_6, ws_R_orbitOf_7, ws_R_orbitOf_9, ws_R_orbitOf_11, ws_R_orbitOf_14, ws_R_orbitOf_15, ws_R_orbitOf_16, ws_R_orbitOf_19, ws_R_orbitOf_20, ws_R_orbitOf_21, ws_R_orbitOf_22, ws_R_orbitOf_23, ws_R_orbitOf_24, ws_R_orbitOf_27, ws_R_orbitOf_28, ws_R_orbitOf_29, ws_R_orbitOf_32, ws_R_orbitOf_35, ws_R_orbitOf_36, ws_R_orbitOf_37, ws_R_orbitOf_38, ws_R_orbitOf_41, ws_R_orbitOf_42, ws_R_orbitOf_43, ws_R_orbitOf_44, ws_R_orbitOf_45, ws_R_orbitOf_48, ws_R_orbitOf_49, ws_R_orbitOf_50, ws_R_orbitOf_51, ws_R_orbitOf_52, ws_R_orbitOf_55, ws_R_orbitOf_56, ws_R_orbitOf_57, ws_R_orbitOf_60, ws_R_orbitOf_62, ws_R_orbitOf_65, ws_R_orbitOf_66, tm_up_s, tm_up_n, tm_up_up, nI_leI, nI_ltI, nI_eq, nI_cl, nI_in', ix_1shl, ix_or, ix_xor, nI_1, bI_0, bI_1, bI_F, pk_us, pk_un, h0, y1, y2]
        refine kc_R_orbitOf_57 H27 (Nat.le_of_ble_eq_true rfl) (by omega) (by omega) (c_R_next H27 H31 y3 hw) ?_ (fun k h1 ⟨_, _, e, _⟩ => nomatch e)
        rintro v0 hh ⟨b, f', z1, z2, z3⟩
        cases z1
        rw [tm_up_up] at z2
        subst z2
        cases b with
        | false =>
          have es : s = gMk (gCa n cc nb 0 v) n := by
            apply Nat.eq_of_testBit_eq
            intro i
            by_cases hi : i < n
            · apply Bool.eq_iff_iff.mpr
              rw [hb i hi, gMk_bit, decide_eq_true hi, Bool.true_and, gCa_iff]
              constructor
              · rintro ⟨q, q1, _, q3⟩
                exact ⟨q, q1, (fun i _ z => by rw [Nat.zero_testBit] at z; cases z), q3⟩
              · rintro ⟨q, q1, _, q3⟩
                refine ⟨q, q1, ?_, q3⟩
                rcases gp_tri n q r with z | z | z
                · exact Or.inl z
                · exact Or.inr z
                · exact absurd z (gp_last hw.1 q1.1 (z3.1 rfl).2)
            · have : 2 ^ n ≤ 2 ^ i := Nat.pow_le_pow_right (by decide) (by omega)
              rw [Nat.testBit_lt_two_pow (by omega), gMk_bit]
              simp [hi]
          apply tm_run [9] 80
          simp (disch := first | assumption | omega) only [↓reduceIte, tm_w_i, tm_w_0, Bool.false_eq_true, tm_gI_0, tm_gI_s, tm_gA_0, tm_gA_s, tm_fv_0, tm_fv_s, tm_p1_e, tm_pA_e, tm_pJ_e, tm_pV_i, tm_pV_r, tm_cI_e, tm_cZ_e, tm_cJ_e, tm_cQ_e, tm_cO_e, tm_rq_e, List.set_cons_zero, List.set_cons_succ, List.contains_cons, List.contains_nil, Nat.reduceBEq, Bool.or_false, Bool.false_or, Bool.or_true, Bool.true_or, Bool.or_self, cond_true, cond_false, true_and, and_true, or_true, true_or, true_implies, false_implies, not_true_eq_false, not_false_eq_true, List.length_cons, List.length_nil, Option.toList_some, Option.toList_none, List.cons_append, List.nil_append, ws_R_orbitOf_0, ws_R_orbitOf_1, ws_R_orbitOf_4, ws_R_orbitOf_5, ws_R_orbitOf_6, ws_R_orbitOf_7, ws_R_orbitOf_9, ws_R_orbitOf_11, ws_R_orbitOf_14, ws_R_orbitOf_15, ws_R_orbitOf_16, ws_R_orbitOf_19, ws_R_orbitOf_20, ws_R_orbitOf_21, ws_R_orbitOf_22, ws_R_orbitOf_23, ws_R_orbitOf_24, ws_R_orbitOf_27, ws_R_orbitOf_28, ws_R_orbitOf_29, ws_R_orbitOf_32, ws_R_orbitOf_35, ws_R_orbitOf_36, ws_R_orbitOf_37, ws_R_orbitOf_38, ws_R_orbitOf_41, ws_R_orbitOf_42, ws_R_orbitOf_43, ws_R_orbitOf_44, ws_R_orbitOf_45, ws_R_orbitOf_48, ws_R_orbitOf_49, ws_R_orbitOf_50, ws_R_orbitOf_51, ws_R_orbitOf_52, ws_R_orbitOf_55, ws_R_orbitOf_56, ws_R_orbitOf_57, ws_R_orbitOf_60, ws_R_orbitOf_62, ws_R_orbitOf_65, ws_R_orbitOf_66, tm_up_s, tm_up_n, tm_up_up, nI_leI, nI_ltI, nI_eq, nI_cl, nI_in', ix_1shl, ix_or, ix_xor, nI_1, bI_0, bI_1, bI_F, pk_us, pk_un]
          apply tm_run [9] 80
          simp (disch := first | assumption | omega) only [↓reduceIte, tm_w_i, tm_w_0, Bool.false_eq_true, tm_gI_0, tm_gI_s, tm_gA_0, tm_gA_s, tm_fv_0, tm_fv_s, tm_p1_e, tm_pA_e, tm_pJ_e, tm_pV_i, tm_pV_r, tm_cI_e, tm_cZ_e, tm_cJ_e, tm_cQ_e, tm_cO_e, tm_rq_e, List.set_cons_zero, List.set_cons_succ, List.contains_cons, List.contains_nil, Nat.reduceBEq, Bool.or_false, Bool.false_or, Bool.or_true, Bool.true_or, Bool.or_self, cond_true, cond_false, true_and, and_true, or_true, true_or, true_implies, false_implies, not_true_eq_false, not_false_eq_true, List.length_cons, List.length_nil, Option.toList_some, Option.toList_none, List.cons_append, List.nil_append, ws_R_orbitOf_0, ws_R_orbitOf_1, ws_R_orbitOf_4, ws_R_orbitOf_5, ws_R_orbitOf_6, ws_R_orbitOf_7, ws_R_orbitOf_9, ws_R_orbitOf_11, ws_R_orbitOf_14, ws_R_orbitOf_15, ws_R_orbitOf_16, ws_R_orbitOf_19, ws_R_orbitOf_20, ws_R_orbitOf_21, ws_R_orbitOf_22, ws_R_orbitOf_23, ws_R_orbitOf_24, ws_R_orbitOf_27, ws_R_orbitOf_28, ws_R_orbitOf_29, ws_R_orbitOf_32, ws_R_orbitOf_35, ws_R_orbitOf_36, ws_R_orbitOf_37, ws_R_orbitOf_38, ws_R_orbitOf_41, ws_R_orbitOf_42, ws_R_orbitOf_43, ws_R_orbitOf_44, ws_R_orbitOf_45, ws_R_orbitOf_48, ws_R_orbitOf_49, ws_R_orbitOf_50, ws_R_orbitOf_51, ws_R_orbitOf_52, ws_R_orbitOf_55, ws_R_orbitOf_56, ws_R_orbitOf_57, ws_R_orbitOf_60, ws_R_orbitOf_62, ws_R_orbitOf_65, ws_R_orbitOf_66, tm_up_s, tm_up_n, tm_up_up, nI_leI, nI_ltI, nI_eq, nI_cl, nI_in', ix_1shl, ix_or, ix_xor, nI_1, bI_0, bI_1, bI_F, pk_us, pk_un, bI_f]
          rw [hQ, es]
          exact ⟨rfl, f', rfl⟩
        | true =>
          obtain ⟨r', i, j, q1, q2⟩ := z3.2 rfl
          apply tm_run [9] 80
          simp (disch := first | assumption | omega) only [↓reduceIte, tm_w_i, tm_w_0, Bool.false_eq_true, tm_gI_0, tm_gI_s, tm_gA_0, tm_gA_s, tm_fv_0, tm_fv_s, tm_p1_e, tm_pA_e, tm_pJ_e, tm_pV_i, tm_pV_r, tm_cI_e, tm_cZ_e, tm_cJ_e, tm_cQ_e, tm_cO_e, tm_rq_e, List.set_cons_zero, List.set_cons_succ, List.contains_cons, List.contains_nil, Nat.reduceBEq, Bool.or_false, Bool.false_or, Bool.or_true, Bool.true_or, Bool.or_self, cond_true, cond_false, true_and, and_true, or_true, true_or, true_implies, false_implies, not_true_eq_false, not_false_eq_true, List.length_cons, List.length_nil, Option.toList_some, Option.toList_none, List.cons_append, List.nil_append, ws_R_orbitOf_0, ws_R_orbitOf_1, ws_R_orbitOf_4, ws_R_orbitOf_5, ws_R_orbitOf_6, ws_R_orbitOf_7, ws_R_orbitOf_9, ws_R_orbitOf_11, ws_R_orbitOf_14, ws_R_orbitOf_15, ws_R_orbitOf_16, ws_R_orbitOf_19, ws_R_orbitOf_20, ws_R_orbitOf_21, ws_R_orbitOf_22, ws_R_orbitOf_23, ws_R_orbitOf_24, ws_R_orbitOf_27, ws_R_orbitOf_28, ws_R_orbitOf_29, ws_R_orbitOf_32, ws_R_orbitOf_35, ws_R_orbitOf_36, ws_R_orbitOf_37, ws_R_orbitOf_38, ws_R_orbitOf_41, ws_R_orbitOf_42, ws_R_orbitOf_43, ws_R_orbitOf_44, ws_R_orbitOf_45, ws_R_orbitOf_48, ws_R_orbitOf_49, ws_R_orbitOf_50, ws_R_orbitOf_51, ws_R_orbitOf_52, ws_R_orbitOf_55, ws_R_orbitOf_56, ws_R_orbitOf_57, ws_R_orbitOf_60, ws_R_orbitOf_62, ws_R_orbitOf_65, ws_R_orbitOf_66, tm_up_s, tm_up_n, tm_up_up, nI_leI, nI_ltI, nI_eq, nI_cl, nI_in', ix_1shl, ix_or, ix_xor, nI_1, bI_0, bI_1, bI_F, pk_us, pk_un]
          have hl := gVl_less (gp_8 y3 hw.1) (gp_nx_lt q2)
          refine ih r' f' s (by omega) q1 hs (fun w hw2 => ?_)
          rw [hb w hw2]
          exact ⟨fun ⟨q, a1, a2, a3⟩ => ⟨q, a1, (gp_nx_iff hw.1 a1.1 q2).mpr a2, a3⟩, fun ⟨q, a1, a2, a3⟩ => ⟨q, a1, (gp_nx_iff hw.1 a1.1 q2).mp a2, a3⟩⟩
      have f1 := hw.2.1 v (by omega)
      have r1 := hw.1.1 v hv
      have s7 : s < 128 := g2p y3 hs
      apply tm_run [9, 50] 80
      simp (disch := first | assumption | omega) only [↓reduceIte, tm_w_i, tm_w_0, Bool.false_eq_true, tm_gI_0, tm_gI_s, tm_gA_0, tm_gA_s, tm_fv_0, tm_fv_s, tm_p1_e, tm_pA_e, tm_pJ_e, tm_pV_i, tm_pV_r, tm_cI_e, tm_cZ_e, tm_cJ_e, tm_cQ_e, tm_cO_e, tm_rq_e, List.set_cons_zero, List.set_cons_succ, List.contains_cons, List.contains_nil, Nat.reduceBEq, Bool.or_false, Bool.false_or, Bool.or_true, Bool.true_or, Bool.or_self, cond_true, cond_false, true_and, and_true, or_true, true_or, true_implies, false_implies, not_true_eq_false, not_false_eq_true, List.length_cons, List.length_nil, Option.toList_some, Option.toList_none, List.cons_append, List.nil_append, ws_R_orbitOf_0, ws_R_orbitOf_1, ws_R_orbitOf_4, ws_R_orbitOf_5, ws_R_orbitOf_6, ws_R_orbitOf_7, ws_R_orbitOf_9, ws_R_orbitOf_11, ws_R_orbitOf_14, ws_R_orbitOf_15, ws_R_orbitOf_16, ws_R_orbitOf_19, ws_R_orbitOf_20, ws_R_orbitOf_21, ws_R_orbitOf_22, ws_R_orbitOf_23, ws_R_orbitOf_24, ws_R_orbitOf_27, ws_R_orbitOf_28, ws_R_orbitOf_29, ws_R_orbitOf_32, ws_R_orbitOf_35, ws_R_orbitOf_36, ws_R_orbitOf_37, ws_R_orbitOf_38, ws_R_orbitOf_41, ws_R_orbitOf_42, ws_R_orbitOf_43, ws_R_orbitOf_44, ws_R_orbitOf_45, ws_R_orbitOf_48, ws_R_orbitOf_49, ws_R_orbitOf_50, ws_R_orbitOf_51, ws_R_orbitOf_52, ws_R_orbitOf_55, ws_R_orbitOf_56, ws_R_orbitOf_57, ws_R_orbitOf_60, ws_R_orbitOf_62, ws_R_orbitOf_65, ws_R_orbitOf_66, tm_up_s, tm_up_n, tm_up_up, nI_leI, nI_ltI, nI_eq, nI_cl, nI_in', ix_1shl, ix_or, ix_xor, nI_1, bI_0, bI_1, bI_F, pk_us, pk_un, e8, h0, f1, ix_bit (show s < 2 ^ 31 by omega) (show r v < 32 by omega)]
      refine ⟨fun q => ?_, fun q => ?_⟩
      · have q' : s.testBit (r v) = true := by
          cases z : s.testBit (r v) with
          | true => rfl
          | false => exact absurd z q
        refine tail s hs (fun w hw2 => ?_)
        rw [hb w hw2]
        constructor
        · rintro ⟨q, a1, a2, a3⟩; exact ⟨q, a1, Or.inl a2, a3⟩
        · rintro ⟨q, a1, a2 | a2, a3⟩
          · exact ⟨q, a1, a2, a3⟩
          · rw [← a3, a2 v hv]
            obtain ⟨p, p1, p2, p3⟩ := (hb _ r1).mp q'
            exact ⟨p, p1, p2, p3⟩
      · have hl := c_R_lays H27 Hd H31 hg hw'
        rw [hnn, hcc, hnb] at hl
        refine kc_R_orbitOf_29 H27 (Nat.le_of_ble_eq_true rfl) (by omega) (by omega) hl ?_ (fun k h1 ⟨⟨_, _, e⟩, _⟩ => nomatch e)
        rintro v0 hh ⟨⟨b, b1, b2⟩, b3⟩
        cases b2; cases b3
        cases b with
        | false =>
          apply tm_run [9, 50] 80
          simp (disch := first | assumption | omega) only [↓reduceIte, tm_w_i, tm_w_0, Bool.false_eq_true, tm_gI_0, tm_gI_s, tm_gA_0, tm_gA_s, tm_fv_0, tm_fv_s, tm_p1_e, tm_pA_e, tm_pJ_e, tm_pV_i, tm_pV_r, tm_cI_e, tm_cZ_e, tm_cJ_e, tm_cQ_e, tm_cO_e, tm_rq_e, List.set_cons_zero, List.set_cons_succ, List.contains_cons, List.contains_nil, Nat.reduceBEq, Bool.or_false, Bool.false_or, Bool.or_true, Bool.true_or, Bool.or_self, cond_true, cond_false, true_and, and_true, or_true, true_or, true_implies, false_implies, not_true_eq_false, not_false_eq_true, List.length_cons, List.length_nil, Option.toList_some, Option.toList_none, List.cons_append, List.nil_append, ws_R_orbitOf_0, ws_R_orbitOf_1, ws_R_orbitOf_4, ws_R_orbitOf_5, ws_R_orbitOf_6, ws_R_orbitOf_7, ws_R_orbitOf_9, ws_R_orbitOf_11, ws_R_orbitOf_14, ws_R_orbitOf_15, ws_R_orbitOf_16, ws_R_orbitOf_19, ws_R_orbitOf_20, ws_R_orbitOf_21, ws_R_orbitOf_22, ws_R_orbitOf_23, ws_R_orbitOf_24, ws_R_orbitOf_27, ws_R_orbitOf_28, ws_R_orbitOf_29, ws_R_orbitOf_32, ws_R_orbitOf_35, ws_R_orbitOf_36, ws_R_orbitOf_37, ws_R_orbitOf_38, ws_R_orbitOf_41, ws_R_orbitOf_42, ws_R_orbitOf_43, ws_R_orbitOf_44, ws_R_orbitOf_45, ws_R_orbitOf_48, ws_R_orbitOf_49, ws_R_orbitOf_50, ws_R_orbitOf_51, ws_R_orbitOf_52, ws_R_orbitOf_55, ws_R_orbitOf_56, ws_R_orbitOf_57, ws_R_orbitOf_60, ws_R_orbitOf_62, ws_R_orbitOf_65, ws_R_orbitOf_66, tm_up_s, tm_up_n, tm_up_up, nI_leI, nI_ltI, nI_eq, nI_cl, nI_in', ix_1shl, ix_or, ix_xor, nI_1, bI_0, bI_1, bI_F, pk_us, pk_un, bI_f]
          refine tail s hs (fun w hw2 => ?_)
          rw [hb w hw2]
          constructor
          · rintro ⟨q, a1, a2, a3⟩; exact ⟨q, a1, Or.inl a2, a3⟩
          · rintro ⟨q, a1, a2 | a2, a3⟩
            · exact ⟨q, a1, a2, a3⟩
            · exact absurd (b1.mpr ((gLy_au hok hw.1).mpr (gAu_eq a2 a1))) (by decide)
        | true =>
          have au := (gLy_au hok hw.1).mp (b1.mp rfl)
          apply tm_run [9, 50] 80
          simp (disch := first | assumption | omega) only [↓reduceIte, tm_w_i, tm_w_0, Bool.false_eq_true, tm_gI_0, tm_gI_s, tm_gA_0, tm_gA_s, tm_fv_0, tm_fv_s, tm_p1_e, tm_pA_e, tm_pJ_e, tm_pV_i, tm_pV_r, tm_cI_e, tm_cZ_e, tm_cJ_e, tm_cQ_e, tm_cO_e, tm_rq_e, List.set_cons_zero, List.set_cons_succ, List.contains_cons, List.contains_nil, Nat.reduceBEq, Bool.or_false, Bool.false_or, Bool.or_true, Bool.true_or, Bool.or_self, cond_true, cond_false, true_and, and_true, or_true, true_or, true_implies, false_implies, not_true_eq_false, not_false_eq_true, List.length_cons, List.length_nil, Option.toList_some, Option.toList_none, List.cons_append, List.nil_append, ws_R_orbitOf_0, ws_R_orbitOf_1, ws_R_orbitOf_4, ws_R_orbitOf_5, ws_R_orbitOf_6, ws_R_orbitOf_7, ws_R_orbitOf_9, ws_R_orbitOf_11, ws_R_orbitOf_14, ws_R_orbitOf_15, ws_R_orbitOf_16, ws_R_orbitOf_19, ws_R_orbitOf_20, ws_R_orbitOf_21, ws_R_orbitOf_22, ws_R_orbitOf_23, ws_R_orbitOf_24, ws_R_orbitOf_27, ws_R_orbitOf_28, ws_R_orbitOf_29, ws_R_orbitOf_32, ws_R_orbitOf_35, ws_R_orbitOf_36, ws_R_orbitOf_37, ws_R_orbitOf_38, ws_R_orbitOf_41, ws_R_orbitOf_42, ws_R_orbitOf_43, ws_R_orbitOf_44, ws_R_orbitOf_45, ws_R_orbitOf_48, ws_R_orbitOf_49, ws_R_orbitOf_50, ws_R_orbitOf_51, ws_R_orbitOf_52, ws_R_orbitOf_55, ws_R_orbitOf_56, ws_R_orbitOf_57, ws_R_orbitOf_60, ws_R_orbitOf_62, ws_R_orbitOf_65, ws_R_orbitOf_66, tm_up_s, tm_up_n, tm_up_up, nI_leI, nI_ltI, nI_eq, nI_cl, nI_in', ix_1shl, ix_or, ix_xor, nI_1, bI_0, bI_1, bI_F, pk_us, pk_un, e8, h0, f1]
          refine tail _ (Nat.or_lt_two_pow hs (Nat.pow_lt_pow_right (by decide) r1)) (fun w hw2 => ?_)
          rw [g_or_bit, hb w hw2]
          constructor
          · rintro (⟨q, a1, a2, a3⟩ | a)
            · exact ⟨q, a1, Or.inl a2, a3⟩
            · exact ⟨r, au, Or.inr (fun _ _ => rfl), a.symm⟩
          · rintro ⟨q, a1, a2 | a2, a3⟩
            · exact Or.inl ⟨q, a1, a2, a3⟩
            · exact Or.inr (by rw [← a3, a2 v hv])
  refine key (8 ^ n) (fun i => i) (gPr nI f 7) 0 (by omega) gRw_id (Nat.two_pow_pos n) (fun w hw => ?_)
  rw [Nat.zero_testBit]
  exact ⟨(fun q => nomatch q), fun ⟨q, a1, a2, _⟩ => absurd a2 (gp_id_first a1.1)⟩
end CG
