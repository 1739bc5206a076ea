section CB
variable {S : gSt} {h h' : tm_Hp} {t l ol : Int32}
theorem gYd.fr (x : gYd S h) (e : ∀ k, k = 28 ∨ k = 29 ∨ k = 30 → h' k = h k) : gYd S h' := by
  obtain ⟨sz, co, ed, a1, a2, a3, a4⟩ := x
  exact ⟨sz, co, ed, (e 28 (by omega)).trans a1, (e 29 (by omega)).trans a2, (e 30 (by omega)).trans a3, a4⟩
theorem gYs.fr (x : gYs h) (e : ∀ k, 31 ≤ k → k ≤ 37 → h' k = h k) : gYs h' := by
  obtain ⟨⟨f1, a1⟩, ⟨f2, a2⟩, ⟨f3, a3⟩, ⟨f4, a4⟩, ⟨f5, a5⟩, ⟨f6, a6⟩, ⟨f7, a7⟩⟩ := x
  exact ⟨⟨f1, (e 31 (by omega) (by omega)).trans a1⟩, ⟨f2, (e 32 (by omega) (by omega)).trans a2⟩, ⟨f3, (e 33 (by omega) (by omega)).trans a3⟩, ⟨f4, (e 34 (by omega) (by omega)).trans a4⟩, ⟨f5, (e 35 (by omega) (by omega)).trans a5⟩, ⟨f6, (e 36 (by omega) (by omega)).trans a6⟩, ⟨f7, (e 37 (by omega) (by omega)).trans a7⟩⟩
theorem gYq.fr (x : gYq S t h) (e : ∀ k, 27 ≤ k → k ≤ 37 → h' k = h k) : gYq S t h' := by
  obtain ⟨⟨l, ol, a⟩, b, c⟩ := x
  exact ⟨⟨l, ol, (e 27 (by omega) (by omega)).trans a⟩, b.fr (fun k hk => e k (by omega) (by omega)), c.fr (fun k h1 h2 => e k (by omega) h2)⟩
theorem c_R_ref0 (h0 : h 27 = tm_o 5 [.int t, .ref 28, .ref 29, .ref 30, .ref 31, .ref 32, .int l, .ref 33, .int ol, .ref 34, .ref 35, .ref 36, .ref 37]) : tm_C M_R_refused 0 0 [.ref 27, .int 0] h (fun z k => z = .inl (some (.int 0)) ∧ k = tm_up h 27 (tm_o 5 [.int 0, .ref 28, .ref 29, .ref 30, .ref 31, .ref 32, .int l, .ref 33, .int ol, .ref 34, .ref 35, .ref 36, .ref 37])) := c_R_refused (x := 0) h0 (by decide)
theorem c_R_refk {k : Nat} (h0 : h 27 = tm_o 5 [.int t, .ref 28, .ref 29, .ref 30, .ref 31, .ref 32, .int l, .ref 33, .int ol, .ref 34, .ref 35, .ref 36, .ref 37]) (hk : k < 3) : tm_C M_R_refused 0 0 [.ref 27, .int (nI (k + 1))] h (fun z k2 => z = .inl (some (.int 1)) ∧ k2 = tm_up h 27 (tm_o 5 [.int (nI (k + 1)), .ref 28, .ref 29, .ref 30, .ref 31, .ref 32, .int l, .ref 33, .int ol, .ref 34, .ref 35, .ref 36, .ref 37])) := by
  have := c_R_refused (x := k + 1) h0 (by omega)
  have e : decide (0 < k + 1) = true := decide_eq_true (by omega)
  rw [e] at this
  exact this
theorem gPq.no {k : Nat} {b : Int32} (hd : gYd S h) (hs : gYs h) : gPq h (.inr k, S) (.inl (some (.int b))) (tm_up h 27 (tm_o 5 [.int (nI (k + 1)), .ref 28, .ref 29, .ref 30, .ref 31, .ref 32, .int l, .ref 33, .int ol, .ref 34, .ref 35, .ref 36, .ref 37])) :=
  ⟨b, rfl, ⟨⟨l, ol, tm_up_s _ _ _⟩, hd.fr (fun k hk => tm_up_n (by omega)), hs.fr (fun k h1 h2 => tm_up_n (by omega))⟩, fun k hk => tm_up_n (by omega), fun v q => nomatch q⟩
theorem gPq.yes {b : Int32} (hq : gYq S 0 h') (hf : ∀ k, k < 27 ∨ 38 ≤ k → h' k = h k) : gPq h (.inl b, S) (.inl (some (.int b))) h' := ⟨b, rfl, hq, hf, fun v q => by cases q; rfl⟩
/-! how many edges -/
def gE1 (nb : Nat → Nat) (v w : Nat) : Nat := if (nb v).testBit w then 1 else 0
def gE2 (nb : Nat → Nat) (n : Nat) : Nat := gS (fun v => gS (gE1 nb v) v) n
theorem gS_add (f g : Nat → Nat) : ∀ k, gS (fun i => f i + g i) k = gS f k + gS g k
  | 0 => rfl
  | k + 1 => by
    simp only [gS, gS_add f g k]
    omega
theorem gE2_ed {n : Nat} {cc nb : Nat → Nat} (h : gOk n cc nb) : gE2 nb n = gEd n nb := by
  have key : ∀ k, k ≤ n → gS (fun v => gS (gE1 nb v) k) k = 2 * gE2 nb k := by
    intro k
    induction k with
    | zero => intro _; rfl
    | succ k ih =>
      intro hk
      have e1 : gS (fun v => gS (gE1 nb v) (k + 1)) (k + 1) = gS (fun v => gS (gE1 nb v) k + gE1 nb v k) k + (gS (gE1 nb k) k + gE1 nb k k) := rfl
      have e2 : gE1 nb k k = 0 := by
        unfold gE1
        rw [(h.2 k (by omega)).2.2.1]
        rfl
      have e3 : gS (fun v => gE1 nb v k) k = gS (gE1 nb k) k := gS_eq (fun i hi => by
        unfold gE1
        rw [(h.2 i (by omega)).2.2.2 k (by omega)])
      have e4 : gE2 nb (k + 1) = gE2 nb k + gS (gE1 nb k) k := rfl
      rw [e1, gS_add, ih (by omega), e2, e3, e4]
      omega
  have e5 : gS (fun i => gpc (nb i)) n = gS (fun v => gS (gE1 nb v) n) n := gS_eq (fun i hi => gpc_S (h.2 i hi).2.1 h.1)
  unfold gEd
  rw [e5, key n (Nat.le_refl n)]
  omega
set_option maxRecDepth 20000 in
theorem c_R_edges {g : Nat} (h0 : h 27 = tm_o 5 [.int t, .ref 28, .ref 29, .ref 30, .ref 31, .ref 32, .int l, .ref 33, .int ol, .ref 34, .ref 35, .ref 36, .ref 37]) (hd : gYd S h) (hg : g < 3) : tm_C M_R_edges 1 0 [.ref 27, .int (nI g)] h (fun z k => z = .inl (some (.int (nI (gEd (S.1 g) (S.2.2 g))))) ∧ k = h) := by
  have hd0 := hd
  obtain ⟨sz, co, ed, a1, a2, a3, a4⟩ := hd
  obtain ⟨b1, b2, b3, b4⟩ := a4 g hg
  have hn := b2.1
  rw [← gE2_ed b2]
  refine tm_C.by (L := [some (.ref 27), some (.int (nI g)), none, none, none]) rfl rfl rfl rfl rfl ?_
  apply tm_run [4] 80
  simp (disch := first | assumption | omega) only [↓reduceIte, tm_w_i, tm_w_0, Bool.false_eq_true, tm_gI_0, tm_gI_s, tm_gA_0, tm_gA_s, tm_fv_0, tm_fv_s, tm_p1_e, tm_pA_e, tm_pJ_e, tm_pV_i, tm_pV_r, tm_cI_e, tm_cZ_e, tm_cJ_e, tm_cQ_e, tm_cO_e, tm_rq_e, List.set_cons_zero, List.set_cons_succ, List.contains_cons, List.contains_nil, Nat.reduceBEq, Bool.or_false, Bool.false_or, Bool.or_true, Bool.true_or, Bool.or_self, cond_true, cond_false, true_and, and_true, or_true, true_or, true_implies, false_implies, not_true_eq_false, not_false_eq_true, List.length_cons, List.length_nil, Option.toList_some, Option.toList_none, List.cons_append, List.nil_append, ws_R_edges_0, ws_R_edges_1, ws_R_edges_2, ws_R_edges_3, ws_R_edges_4, ws_R_edges_5, ws_R_edges_6, ws_R_edges_9, ws_R_edges_10, ws_R_edges_11, ws_R_edges_14, ws_R_edges_15, ws_R_edges_17, ws_R_edges_19, ws_R_edges_20, ws_R_edges_23, ws_R_edges_24, ws_R_edges_25, ws_R_edges_26, ws_R_edges_28, ws_R_edges_31, ws_R_edges_34, ws_R_edges_35, ws_R_edges_36, ws_R_edges_37, ws_R_edges_40, ws_R_edges_41, ws_R_edges_42, ws_R_edges_45, ws_R_edges_48, ws_R_edges_51, ws_R_edges_54, ws_R_edges_55, tm_up_s, tm_up_n, tm_up_up, nI_leI, nI_ltI, nI_eq, nI_cl, nI_in', ix_1shl, ix_or, ix_xor, nI_1, bI_0, bI_1, bI_F, pk_us, pk_un]
  have inner : ∀ k v w, v < S.1 g → w + k = v → tm_T M_R_edges 1 0 (fun z k => z = .inl (some (.int (nI (gE2 (S.2.2 g) (S.1 g))))) ∧ k = h) 0 4 [some (.ref 27), some (.int (nI g)), some (.int (nI (gE2 (S.2.2 g) (v + 1)))), some (.int (nI (v + 1))), some (.int (nI v))] [] h → tm_T M_R_edges 1 0 (fun z k => z = .inl (some (.int (nI (gE2 (S.2.2 g) (S.1 g))))) ∧ k = h) 0 17 [some (.ref 27), some (.int (nI g)), some (.int (nI (gE2 (S.2.2 g) v + gS (gE1 (S.2.2 g) v) w))), some (.int (nI v)), some (.int (nI w))] [] h := by
    intro k
    induction k with
    | zero =>
      intro v w hv hw hT
      obtain rfl : w = v := by omega
      apply tm_run [4, 17] 80
      simp (disch := first | assumption | omega) only [↓reduceIte, tm_w_i, tm_w_0, Bool.false_eq_true, tm_gI_0, tm_gI_s, tm_gA_0, tm_gA_s, tm_fv_0, tm_fv_s, tm_p1_e, tm_pA_e, tm_pJ_e, tm_pV_i, tm_pV_r, tm_cI_e, tm_cZ_e, tm_cJ_e, tm_cQ_e, tm_cO_e, tm_rq_e, List.set_cons_zero, List.set_cons_succ, List.contains_cons, List.contains_nil, Nat.reduceBEq, Bool.or_false, Bool.false_or, Bool.or_true, Bool.true_or, Bool.or_self, cond_true, cond_false, true_and, and_true, or_true, true_or, true_implies, false_implies, not_true_eq_false, not_false_eq_true, List.length_cons, List.length_nil, Option.toList_some, Option.toList_none, List.cons_append, List.nil_append, ws_R_edges_0, ws_R_edges_1, ws_R_edges_2, ws_R_edges_3, ws_R_edges_4, ws_R_edges_5, ws_R_edges_6, ws_R_edges_9, ws_R_edges_10, ws_R_edges_11, ws_R_edges_14, ws_R_edges_15, ws_R_edges_17, ws_R_edges_19, ws_R_edges_20, ws_R_edges_23, ws_R_edges_24, ws_R_edges_25, ws_R_edges_26, ws_R_edges_28, ws_R_edges_31, ws_R_edges_34, ws_R_edges_35, ws_R_edges_36, ws_R_edges_37, ws_R_edges_40, ws_R_edges_41, ws_R_edges_42, ws_R_edges_45, ws_R_edges_48, ws_R_edges_51, ws_R_edges_54, ws_R_edges_55, tm_up_s, tm_up_n, tm_up_up, nI_leI, nI_ltI, nI_eq, nI_cl, nI_in', ix_1shl, ix_or, ix_xor, nI_1, bI_0, bI_1, bI_F, pk_us, pk_un, Nat.le_refl]
      exact hT
    | succ k ih =>
      intro v w hv hw hT
      have hlt : ¬ v ≤ w := by omega
      have := ih v (w + 1) hv (by omega) hT
      rw [gS] at this
      apply tm_run [4, 17] 80
      simp (disch := first | assumption | omega) only [↓reduceIte, tm_w_i, tm_w_0, Bool.false_eq_true, tm_gI_0, tm_gI_s, tm_gA_0, tm_gA_s, tm_fv_0, tm_fv_s, tm_p1_e, tm_pA_e, tm_pJ_e, tm_pV_i, tm_pV_r, tm_cI_e, tm_cZ_e, tm_cJ_e, tm_cQ_e, tm_cO_e, tm_rq_e, List.set_cons_zero, List.set_cons_succ, List.contains_cons, List.contains_nil, Nat.reduceBEq, Bool.or_false, Bool.false_or, Bool.or_true, Bool.true_or, Bool.or_self, cond_true, cond_false, true_and, and_true, or_true, true_or, true_implies, false_implies, not_true_eq_false, not_false_eq_true, List.length_cons, List.length_nil, Option.toList_some, Option.toList_none, List.cons_append, List.nil_append, ws_R_edges_0, ws_R_edges_1, ws_R_edges_2, ws_R_edges_3, ws_R_edges_4, ws_R_edges_5, ws_R_edges_6, ws_R_edges_9, ws_R_edges_10, ws_R_edges_11, ws_R_edges_14, ws_R_edges_15, ws_R_edges_17, ws_R_edges_19, ws_R_edges_20, ws_R_edges_23, ws_R_edges_24, ws_R_edges_25, ws_R_edges_26, ws_R_edges_28, ws_R_edges_31, ws_R_edges_34, ws_R_edges_35, ws_R_edges_36, ws_R_edges_37, ws_R_edges_40, ws_R_edges_41, ws_R_edges_42, ws_R_edges_45, ws_R_edges_48, ws_R_edges_51, ws_R_edges_54, ws_R_edges_55, tm_up_s, tm_up_n, tm_up_up, nI_leI, nI_ltI, nI_eq, nI_cl, nI_in', ix_1shl, ix_or, ix_xor, nI_1, bI_0, bI_1, bI_F, pk_us, pk_un, hlt]
      refine kd_R_edges_28 h0 (Nat.le_of_ble_eq_true rfl) (by omega) (by omega) (c_R_isEdge h0 hd0 hg hv (by omega)) ?_
      unfold gE1 at this
      cases b1 : (S.2.2 g v).testBit w with
      | false =>
        rw [b1] at this
        apply tm_run [4, 17] 80
        simp (disch := first | assumption | omega) only [↓reduceIte, tm_w_i, tm_w_0, Bool.false_eq_true, tm_gI_0, tm_gI_s, tm_gA_0, tm_gA_s, tm_fv_0, tm_fv_s, tm_p1_e, tm_pA_e, tm_pJ_e, tm_pV_i, tm_pV_r, tm_cI_e, tm_cZ_e, tm_cJ_e, tm_cQ_e, tm_cO_e, tm_rq_e, List.set_cons_zero, List.set_cons_succ, List.contains_cons, List.contains_nil, Nat.reduceBEq, Bool.or_false, Bool.false_or, Bool.or_true, Bool.true_or, Bool.or_self, cond_true, cond_false, true_and, and_true, or_true, true_or, true_implies, false_implies, not_true_eq_false, not_false_eq_true, List.length_cons, List.length_nil, Option.toList_some, Option.toList_none, List.cons_append, List.nil_append, ws_R_edges_0, ws_R_edges_1, ws_R_edges_2, ws_R_edges_3, ws_R_edges_4, ws_R_edges_5, ws_R_edges_6, ws_R_edges_9, ws_R_edges_10, ws_R_edges_11, ws_R_edges_14, ws_R_edges_15, ws_R_edges_17, ws_R_edges_19, ws_R_edges_20, ws_R_edges_23, ws_R_edges_24, ws_R_edges_25, ws_R_edges_26, ws_R_edges_28, ws_R_edges_31, ws_R_edges_34, ws_R_edges_35, ws_R_edges_36, ws_R_edges_37, ws_R_edges_40, ws_R_edges_41, ws_R_edges_42, ws_R_edges_45, ws_R_edges_48, ws_R_edges_51, ws_R_edges_54, ws_R_edges_55, tm_up_s, tm_up_n, tm_up_up, nI_leI, nI_ltI, nI_eq, nI_cl, nI_in', ix_1shl, ix_or, ix_xor, nI_1, bI_0, bI_1, bI_F, pk_us, pk_un, bI_f]
        exact this
      | true =>
        rw [b1] at this
        have e8 : ¬ bI true = 0 := by decide
        apply tm_run [4, 17] 80
        simp (disch := first | assumption | omega) only [↓reduceIte, tm_w_i, tm_w_0, Bool.false_eq_true, tm_gI_0, tm_gI_s, tm_gA_0, tm_gA_s, tm_fv_0, tm_fv_s, tm_p1_e, tm_pA_e, tm_pJ_e, tm_pV_i, tm_pV_r, tm_cI_e, tm_cZ_e, tm_cJ_e, tm_cQ_e, tm_cO_e, tm_rq_e, List.set_cons_zero, List.set_cons_succ, List.contains_cons, List.contains_nil, Nat.reduceBEq, Bool.or_false, Bool.false_or, Bool.or_true, Bool.true_or, Bool.or_self, cond_true, cond_false, true_and, and_true, or_true, true_or, true_implies, false_implies, not_true_eq_false, not_false_eq_true, List.length_cons, List.length_nil, Option.toList_some, Option.toList_none, List.cons_append, List.nil_append, ws_R_edges_0, ws_R_edges_1, ws_R_edges_2, ws_R_edges_3, ws_R_edges_4, ws_R_edges_5, ws_R_edges_6, ws_R_edges_9, ws_R_edges_10, ws_R_edges_11, ws_R_edges_14, ws_R_edges_15, ws_R_edges_17, ws_R_edges_19, ws_R_edges_20, ws_R_edges_23, ws_R_edges_24, ws_R_edges_25, ws_R_edges_26, ws_R_edges_28, ws_R_edges_31, ws_R_edges_34, ws_R_edges_35, ws_R_edges_36, ws_R_edges_37, ws_R_edges_40, ws_R_edges_41, ws_R_edges_42, ws_R_edges_45, ws_R_edges_48, ws_R_edges_51, ws_R_edges_54, ws_R_edges_55, tm_up_s, tm_up_n, tm_up_up, nI_leI, nI_ltI, nI_eq, nI_cl, nI_in', ix_1shl, ix_or, ix_xor, nI_1, bI_0, bI_1, bI_F, pk_us, pk_un, e8]
        exact this
  have outer : ∀ k v x, v + k = S.1 g → tm_T M_R_edges 1 0 (fun z k => z = .inl (some (.int (nI (gE2 (S.2.2 g) (S.1 g))))) ∧ k = h) 0 4 [some (.ref 27), some (.int (nI g)), some (.int (nI (gE2 (S.2.2 g) v))), some (.int (nI v)), x] [] h := by
    intro k
    induction k with
    | zero =>
      intro v x hv
      obtain rfl : v = S.1 g := by omega
      apply tm_run [4, 17] 80
      simp (disch := first | assumption | omega) only [↓reduceIte, tm_w_i, tm_w_0, Bool.false_eq_true, tm_gI_0, tm_gI_s, tm_gA_0, tm_gA_s, tm_fv_0, tm_fv_s, tm_p1_e, tm_pA_e, tm_pJ_e, tm_pV_i, tm_pV_r, tm_cI_e, tm_cZ_e, tm_cJ_e, tm_cQ_e, tm_cO_e, tm_rq_e, List.set_cons_zero, List.set_cons_succ, List.contains_cons, List.contains_nil, Nat.reduceBEq, Bool.or_false, Bool.false_or, Bool.or_true, Bool.true_or, Bool.or_self, cond_true, cond_false, true_and, and_true, or_true, true_or, true_implies, false_implies, not_true_eq_false, not_false_eq_true, List.length_cons, List.length_nil, Option.toList_some, Option.toList_none, List.cons_append, List.nil_append, ws_R_edges_0, ws_R_edges_1, ws_R_edges_2, ws_R_edges_3, ws_R_edges_4, ws_R_edges_5, ws_R_edges_6, ws_R_edges_9, ws_R_edges_10, ws_R_edges_11, ws_R_edges_14, ws_R_edges_15, ws_R_edges_17, ws_R_edges_19, ws_R_edges_20, ws_R_edges_23, ws_R_edges_24, ws_R_edges_25, ws_R_edges_26, ws_R_edges_28, ws_R_edges_31, ws_R_edges_34, ws_R_edges_35, ws_R_edges_36, ws_R_edges_37, ws_R_edges_40, ws_R_edges_41, ws_R_edges_42, ws_R_edges_45, ws_R_edges_48, ws_R_edges_51, ws_R_edges_54, ws_R_edges_55, tm_up_s, tm_up_n, tm_up_up, nI_leI, nI_ltI, nI_eq, nI_cl, nI_in', ix_1shl, ix_or, ix_xor, nI_1, bI_0, bI_1, bI_F, pk_us, pk_un, h0, a1, b1, Nat.le_refl]
    | succ k ih =>
      intro v x hv
      have hlt : ¬ S.1 g ≤ v := by omega
      apply tm_run [4, 17] 80
      simp (disch := first | assumption | omega) only [↓reduceIte, tm_w_i, tm_w_0, Bool.false_eq_true, tm_gI_0, tm_gI_s, tm_gA_0, tm_gA_s, tm_fv_0, tm_fv_s, tm_p1_e, tm_pA_e, tm_pJ_e, tm_pV_i, tm_pV_r, tm_cI_e, tm_cZ_e, tm_cJ_e, tm_cQ_e, tm_cO_e, tm_rq_e, List.set_cons_zero, List.set_cons_succ, List.contains_cons, List.contains_nil, Nat.reduceBEq, Bool.or_false, Bool.false_or, Bool.or_true, Bool.true_or, Bool.or_self, cond_true, cond_false, true_and, and_true, or_true, true_or, true_implies, false_implies, not_true_eq_false, not_false_eq_true, List.length_cons, List.length_nil, Option.toList_some, Option.toList_none, List.cons_append, List.nil_append, ws_R_edges_0, ws_R_edges_1, ws_R_edges_2, ws_R_edges_3, ws_R_edges_4, ws_R_edges_5, ws_R_edges_6, ws_R_edges_9, ws_R_edges_10, ws_R_edges_11, ws_R_edges_14, ws_R_edges_15, ws_R_edges_17, ws_R_edges_19, ws_R_edges_20, ws_R_edges_23, ws_R_edges_24, ws_R_edges_25, ws_R_edges_26, ws_R_edges_28, ws_R_edges_31, ws_R_edges_34, ws_R_edges_35, ws_R_edges_36, ws_R_edges_37, ws_R_edges_40, ws_R_edges_41, ws_R_edges_42, ws_R_edges_45, ws_R_edges_48, ws_R_edges_51, ws_R_edges_54, ws_R_edges_55, tm_up_s, tm_up_n, tm_up_up, nI_leI, nI_ltI, nI_eq, nI_cl, nI_in', ix_1shl, ix_or, ix_xor, nI_1, bI_0, bI_1, bI_F, pk_us, pk_un, h0, a1, b1, hlt]
      exact inner v v 0 (by omega) (by omega) (ih (v + 1) _ (by omega))
  exact outer (S.1 g) 0 none (by omega)
set_option maxRecDepth 20000 in
theorem c_R_size {g : Int32} (hq : gYq S t h) : tm_C M_R_size 20 0 [.ref 27, .int g] h (gPq h (o_size S g)) := by
  obtain ⟨⟨l, ol, h0⟩, hd, hs⟩ := hq
  refine tm_C.by (L := [some (.ref 27), some (.int g)]) rfl rfl rfl rfl rfl ?_
  have e8 : ¬ bI true = 0 := by decide
  have e1 : ¬ (1 : Int32) = 0 := by decide
  apply tm_run [] 80
  simp (disch := first | assumption | omega) only [↓reduceIte, tm_w_i, tm_w_0, Bool.false_eq_true, tm_gI_0, tm_gI_s, tm_gA_0, tm_gA_s, tm_fv_0, tm_fv_s, tm_p1_e, tm_pA_e, tm_pJ_e, tm_pV_i, tm_pV_r, tm_cI_e, tm_cZ_e, tm_cJ_e, tm_cQ_e, tm_cO_e, tm_rq_e, List.set_cons_zero, List.set_cons_succ, List.contains_cons, List.contains_nil, Nat.reduceBEq, Bool.or_false, Bool.false_or, Bool.or_true, Bool.true_or, Bool.or_self, cond_true, cond_false, true_and, and_true, or_true, true_or, true_implies, false_implies, not_true_eq_false, not_false_eq_true, List.length_cons, List.length_nil, Option.toList_some, Option.toList_none, List.cons_append, List.nil_append, ws_R_size_0, ws_R_size_1, ws_R_size_2, ws_R_size_5, ws_R_size_8, ws_R_size_9, ws_R_size_12, ws_R_size_13, ws_R_size_16, ws_R_size_19, ws_R_size_20, ws_R_size_23, ws_R_size_24, ws_R_size_27, ws_R_size_28, ws_R_size_29, tm_up_s, tm_up_n, tm_up_up, nI_leI, nI_ltI, nI_eq, nI_cl, nI_in', ix_1shl, ix_or, ix_xor, nI_1, bI_0, bI_1, bI_F, pk_us, pk_un]
  refine kd_R_size_2 (Nat.le_of_ble_eq_true rfl) (by omega) (by omega) c_R_noGraph ?_
  rcases gI_c (N := 3) (by decide) g with ⟨e, hx⟩ | ⟨j, hj, rfl, e⟩
  · simp only [o_size, e]
    apply tm_run [] 80
    simp (disch := first | assumption | omega) only [↓reduceIte, tm_w_i, tm_w_0, Bool.false_eq_true, tm_gI_0, tm_gI_s, tm_gA_0, tm_gA_s, tm_fv_0, tm_fv_s, tm_p1_e, tm_pA_e, tm_pJ_e, tm_pV_i, tm_pV_r, tm_cI_e, tm_cZ_e, tm_cJ_e, tm_cQ_e, tm_cO_e, tm_rq_e, List.set_cons_zero, List.set_cons_succ, List.contains_cons, List.contains_nil, Nat.reduceBEq, Bool.or_false, Bool.false_or, Bool.or_true, Bool.true_or, Bool.or_self, cond_true, cond_false, true_and, and_true, or_true, true_or, true_implies, false_implies, not_true_eq_false, not_false_eq_true, List.length_cons, List.length_nil, Option.toList_some, Option.toList_none, List.cons_append, List.nil_append, ws_R_size_0, ws_R_size_1, ws_R_size_2, ws_R_size_5, ws_R_size_8, ws_R_size_9, ws_R_size_12, ws_R_size_13, ws_R_size_16, ws_R_size_19, ws_R_size_20, ws_R_size_23, ws_R_size_24, ws_R_size_27, ws_R_size_28, ws_R_size_29, tm_up_s, tm_up_n, tm_up_up, nI_leI, nI_ltI, nI_eq, nI_cl, nI_in', ix_1shl, ix_or, ix_xor, nI_1, bI_0, bI_1, bI_F, pk_us, pk_un, Option.isNone_none, e8]
    refine kd_R_size_13 h0 (Nat.le_of_ble_eq_true rfl) (by omega) (by omega) (c_R_refk (k := 0) h0 (by decide)) ?_
    apply tm_run [] 80
    simp (disch := first | assumption | omega) only [↓reduceIte, tm_w_i, tm_w_0, Bool.false_eq_true, tm_gI_0, tm_gI_s, tm_gA_0, tm_gA_s, tm_fv_0, tm_fv_s, tm_p1_e, tm_pA_e, tm_pJ_e, tm_pV_i, tm_pV_r, tm_cI_e, tm_cZ_e, tm_cJ_e, tm_cQ_e, tm_cO_e, tm_rq_e, List.set_cons_zero, List.set_cons_succ, List.contains_cons, List.contains_nil, Nat.reduceBEq, Bool.or_false, Bool.false_or, Bool.or_true, Bool.true_or, Bool.or_self, cond_true, cond_false, true_and, and_true, or_true, true_or, true_implies, false_implies, not_true_eq_false, not_false_eq_true, List.length_cons, List.length_nil, Option.toList_some, Option.toList_none, List.cons_append, List.nil_append, ws_R_size_0, ws_R_size_1, ws_R_size_2, ws_R_size_5, ws_R_size_8, ws_R_size_9, ws_R_size_12, ws_R_size_13, ws_R_size_16, ws_R_size_19, ws_R_size_20, ws_R_size_23, ws_R_size_24, ws_R_size_27, ws_R_size_28, ws_R_size_29, tm_up_s, tm_up_n, tm_up_up, nI_leI, nI_ltI, nI_eq, nI_cl, nI_in', ix_1shl, ix_or, ix_xor, nI_1, bI_0, bI_1, bI_F, pk_us, pk_un, e1]
    exact gPq.no hd hs
  · simp only [o_size, e]
    apply tm_run [] 80
    simp (disch := first | assumption | omega) only [↓reduceIte, tm_w_i, tm_w_0, Bool.false_eq_true, tm_gI_0, tm_gI_s, tm_gA_0, tm_gA_s, tm_fv_0, tm_fv_s, tm_p1_e, tm_pA_e, tm_pJ_e, tm_pV_i, tm_pV_r, tm_cI_e, tm_cZ_e, tm_cJ_e, tm_cQ_e, tm_cO_e, tm_rq_e, List.set_cons_zero, List.set_cons_succ, List.contains_cons, List.contains_nil, Nat.reduceBEq, Bool.or_false, Bool.false_or, Bool.or_true, Bool.true_or, Bool.or_self, cond_true, cond_false, true_and, and_true, or_true, true_or, true_implies, false_implies, not_true_eq_false, not_false_eq_true, List.length_cons, List.length_nil, Option.toList_some, Option.toList_none, List.cons_append, List.nil_append, ws_R_size_0, ws_R_size_1, ws_R_size_2, ws_R_size_5, ws_R_size_8, ws_R_size_9, ws_R_size_12, ws_R_size_13, ws_R_size_16, ws_R_size_19, ws_R_size_20, ws_R_size_23, ws_R_size_24, ws_R_size_27, ws_R_size_28, ws_R_size_29, tm_up_s, tm_up_n, tm_up_up, nI_leI, nI_ltI, nI_eq, nI_cl, nI_in', ix_1shl, ix_or, ix_xor, nI_1, bI_0, bI_1, bI_F, pk_us, pk_un, Option.isNone_some, bI_f]
    refine kd_R_size_13 h0 (Nat.le_of_ble_eq_true rfl) (by omega) (by omega) (c_R_ref0 h0) ?_
    obtain ⟨sz, a1, a2, a3⟩ := hd.sz hj
    apply tm_run [] 80
    simp (disch := first | assumption | omega) only [↓reduceIte, tm_w_i, tm_w_0, Bool.false_eq_true, tm_gI_0, tm_gI_s, tm_gA_0, tm_gA_s, tm_fv_0, tm_fv_s, tm_p1_e, tm_pA_e, tm_pJ_e, tm_pV_i, tm_pV_r, tm_cI_e, tm_cZ_e, tm_cJ_e, tm_cQ_e, tm_cO_e, tm_rq_e, List.set_cons_zero, List.set_cons_succ, List.contains_cons, List.contains_nil, Nat.reduceBEq, Bool.or_false, Bool.false_or, Bool.or_true, Bool.true_or, Bool.or_self, cond_true, cond_false, true_and, and_true, or_true, true_or, true_implies, false_implies, not_true_eq_false, not_false_eq_true, List.length_cons, List.length_nil, Option.toList_some, Option.toList_none, List.cons_append, List.nil_append, ws_R_size_0, ws_R_size_1, ws_R_size_2, ws_R_size_5, ws_R_size_8, ws_R_size_9, ws_R_size_12, ws_R_size_13, ws_R_size_16, ws_R_size_19, ws_R_size_20, ws_R_size_23, ws_R_size_24, ws_R_size_27, ws_R_size_28, ws_R_size_29, tm_up_s, tm_up_n, tm_up_up, nI_leI, nI_ltI, nI_eq, nI_cl, nI_in', ix_1shl, ix_or, ix_xor, nI_1, bI_0, bI_1, bI_F, pk_us, pk_un, a1, a2]
    exact gPq.yes ⟨⟨l, ol, tm_up_s _ _ _⟩, hd.fr (fun k hk => tm_up_n (by omega)), hs.fr (fun k h1 h2 => tm_up_n (by omega))⟩ (fun k hk => tm_up_n (by omega))
set_option maxRecDepth 20000 in
theorem c_R_clear {g : Int32} (hq : gYq S t h) : tm_C M_R_clear 20 0 [.ref 27, .int g] h (gPq h (o_clear S g)) := by
  obtain ⟨⟨l, ol, h0⟩, hd, hs⟩ := hq
  refine tm_C.by (L := [some (.ref 27), some (.int g), none]) rfl rfl rfl rfl rfl ?_
  have e8 : ¬ bI true = 0 := by decide
  have e1 : ¬ (1 : Int32) = 0 := by decide
  apply tm_run [] 80
  simp (disch := first | assumption | omega) only [↓reduceIte, tm_w_i, tm_w_0, Bool.false_eq_true, tm_gI_0, tm_gI_s, tm_gA_0, tm_gA_s, tm_fv_0, tm_fv_s, tm_p1_e, tm_pA_e, tm_pJ_e, tm_pV_i, tm_pV_r, tm_cI_e, tm_cZ_e, tm_cJ_e, tm_cQ_e, tm_cO_e, tm_rq_e, List.set_cons_zero, List.set_cons_succ, List.contains_cons, List.contains_nil, Nat.reduceBEq, Bool.or_false, Bool.false_or, Bool.or_true, Bool.true_or, Bool.or_self, cond_true, cond_false, true_and, and_true, or_true, true_or, true_implies, false_implies, not_true_eq_false, not_false_eq_true, List.length_cons, List.length_nil, Option.toList_some, Option.toList_none, List.cons_append, List.nil_append, ws_R_clear_0, ws_R_clear_1, ws_R_clear_2, ws_R_clear_5, ws_R_clear_8, ws_R_clear_9, ws_R_clear_12, ws_R_clear_13, ws_R_clear_16, ws_R_clear_19, ws_R_clear_20, ws_R_clear_21, ws_R_clear_22, ws_R_clear_25, ws_R_clear_26, ws_R_clear_27, ws_R_clear_28, ws_R_clear_29, ws_R_clear_32, ws_R_clear_33, ws_R_clear_34, ws_R_clear_35, ws_R_clear_36, tm_up_s, tm_up_n, tm_up_up, nI_leI, nI_ltI, nI_eq, nI_cl, nI_in', ix_1shl, ix_or, ix_xor, nI_1, bI_0, bI_1, bI_F, pk_us, pk_un]
  refine kd_R_clear_2 (Nat.le_of_ble_eq_true rfl) (by omega) (by omega) c_R_noGraph ?_
  rcases gI_c (N := 3) (by decide) g with ⟨e, hx⟩ | ⟨j, hj, rfl, e⟩
  · simp only [o_clear, e]
    apply tm_run [] 80
    simp (disch := first | assumption | omega) only [↓reduceIte, tm_w_i, tm_w_0, Bool.false_eq_true, tm_gI_0, tm_gI_s, tm_gA_0, tm_gA_s, tm_fv_0, tm_fv_s, tm_p1_e, tm_pA_e, tm_pJ_e, tm_pV_i, tm_pV_r, tm_cI_e, tm_cZ_e, tm_cJ_e, tm_cQ_e, tm_cO_e, tm_rq_e, List.set_cons_zero, List.set_cons_succ, List.contains_cons, List.contains_nil, Nat.reduceBEq, Bool.or_false, Bool.false_or, Bool.or_true, Bool.true_or, Bool.or_self, cond_true, cond_false, true_and, and_true, or_true, true_or, true_implies, false_implies, not_true_eq_false, not_false_eq_true, List.length_cons, List.length_nil, Option.toList_some, Option.toList_none, List.cons_append, List.nil_append, ws_R_clear_0, ws_R_clear_1, ws_R_clear_2, ws_R_clear_5, ws_R_clear_8, ws_R_clear_9, ws_R_clear_12, ws_R_clear_13, ws_R_clear_16, ws_R_clear_19, ws_R_clear_20, ws_R_clear_21, ws_R_clear_22, ws_R_clear_25, ws_R_clear_26, ws_R_clear_27, ws_R_clear_28, ws_R_clear_29, ws_R_clear_32, ws_R_clear_33, ws_R_clear_34, ws_R_clear_35, ws_R_clear_36, tm_up_s, tm_up_n, tm_up_up, nI_leI, nI_ltI, nI_eq, nI_cl, nI_in', ix_1shl, ix_or, ix_xor, nI_1, bI_0, bI_1, bI_F, pk_us, pk_un, Option.isNone_none, e8]
    refine kd_R_clear_13 h0 (Nat.le_of_ble_eq_true rfl) (by omega) (by omega) (c_R_refk (k := 0) h0 (by decide)) ?_
    apply tm_run [] 80
    simp (disch := first | assumption | omega) only [↓reduceIte, tm_w_i, tm_w_0, Bool.false_eq_true, tm_gI_0, tm_gI_s, tm_gA_0, tm_gA_s, tm_fv_0, tm_fv_s, tm_p1_e, tm_pA_e, tm_pJ_e, tm_pV_i, tm_pV_r, tm_cI_e, tm_cZ_e, tm_cJ_e, tm_cQ_e, tm_cO_e, tm_rq_e, List.set_cons_zero, List.set_cons_succ, List.contains_cons, List.contains_nil, Nat.reduceBEq, Bool.or_false, Bool.false_or, Bool.or_true, Bool.true_or, Bool.or_self, cond_true, cond_false, true_and, and_true, or_true, true_or, true_implies, false_implies, not_true_eq_false, not_false_eq_true, List.length_cons, List.length_nil, Option.toList_some, Option.toList_none, List.cons_append, List.nil_append, ws_R_clear_0, ws_R_clear_1, ws_R_clear_2, ws_R_clear_5, ws_R_clear_8, ws_R_clear_9, ws_R_clear_12, ws_R_clear_13, ws_R_clear_16, ws_R_clear_19, ws_R_clear_20, ws_R_clear_21, ws_R_clear_22, ws_R_clear_25, ws_R_clear_26, ws_R_clear_27, ws_R_clear_28, ws_R_clear_29, ws_R_clear_32, ws_R_clear_33, ws_R_clear_34, ws_R_clear_35, ws_R_clear_36, tm_up_s, tm_up_n, tm_up_up, nI_leI, nI_ltI, nI_eq, nI_cl, nI_in', ix_1shl, ix_or, ix_xor, nI_1, bI_0, bI_1, bI_F, pk_us, pk_un, e1]
    exact gPq.no hd hs
  · simp only [o_clear, e]
    apply tm_run [] 80
    simp (disch := first | assumption | omega) only [↓reduceIte, tm_w_i, tm_w_0, Bool.false_eq_true, tm_gI_0, tm_gI_s, tm_gA_0, tm_gA_s, tm_fv_0, tm_fv_s, tm_p1_e, tm_pA_e, tm_pJ_e, tm_pV_i, tm_pV_r, tm_cI_e, tm_cZ_e, tm_cJ_e, tm_cQ_e, tm_cO_e, tm_rq_e, List.set_cons_zero, List.set_cons_succ, List.contains_cons, List.contains_nil, Nat.reduceBEq, Bool.or_false, Bool.false_or, Bool.or_true, Bool.true_or, Bool.or_self, cond_true, cond_false, true_and, and_true, or_true, true_or, true_implies, false_implies, not_true_eq_false, not_false_eq_true, List.length_cons, List.length_nil, Option.toList_some, Option.toList_none, List.cons_append, List.nil_append, ws_R_clear_0, ws_R_clear_1, ws_R_clear_2, ws_R_clear_5, ws_R_clear_8, ws_R_clear_9, ws_R_clear_12, ws_R_clear_13, ws_R_clear_16, ws_R_clear_19, ws_R_clear_20, ws_R_clear_21, ws_R_clear_22, ws_R_clear_25, ws_R_clear_26, ws_R_clear_27, ws_R_clear_28, ws_R_clear_29, ws_R_clear_32, ws_R_clear_33, ws_R_clear_34, ws_R_clear_35, ws_R_clear_36, tm_up_s, tm_up_n, tm_up_up, nI_leI, nI_ltI, nI_eq, nI_cl, nI_in', ix_1shl, ix_or, ix_xor, nI_1, bI_0, bI_1, bI_F, pk_us, pk_un, Option.isNone_some, bI_f]
    refine kd_R_clear_13 h0 (Nat.le_of_ble_eq_true rfl) (by omega) (by omega) (c_R_ref0 h0) ?_
    obtain ⟨sz, co, ed, a1, a2, a3, a4⟩ := hd
    have hK : 28 < tm_K := by decide
    apply tm_run [] 80
    simp (disch := first | assumption | omega) only [↓reduceIte, tm_w_i, tm_w_0, Bool.false_eq_true, tm_gI_0, tm_gI_s, tm_gA_0, tm_gA_s, tm_fv_0, tm_fv_s, tm_p1_e, tm_pA_e, tm_pJ_e, tm_pV_i, tm_pV_r, tm_cI_e, tm_cZ_e, tm_cJ_e, tm_cQ_e, tm_cO_e, tm_rq_e, List.set_cons_zero, List.set_cons_succ, List.contains_cons, List.contains_nil, Nat.reduceBEq, Bool.or_false, Bool.false_or, Bool.or_true, Bool.true_or, Bool.or_self, cond_true, cond_false, true_and, and_true, or_true, true_or, true_implies, false_implies, not_true_eq_false, not_false_eq_true, List.length_cons, List.length_nil, Option.toList_some, Option.toList_none, List.cons_append, List.nil_append, ws_R_clear_0, ws_R_clear_1, ws_R_clear_2, ws_R_clear_5, ws_R_clear_8, ws_R_clear_9, ws_R_clear_12, ws_R_clear_13, ws_R_clear_16, ws_R_clear_19, ws_R_clear_20, ws_R_clear_21, ws_R_clear_22, ws_R_clear_25, ws_R_clear_26, ws_R_clear_27, ws_R_clear_28, ws_R_clear_29, ws_R_clear_32, ws_R_clear_33, ws_R_clear_34, ws_R_clear_35, ws_R_clear_36, tm_up_s, tm_up_n, tm_up_up, nI_leI, nI_ltI, nI_eq, nI_cl, nI_in', ix_1shl, ix_or, ix_xor, nI_1, bI_0, bI_1, bI_F, pk_us, pk_un, a1, (a4 j hj).1, hK]
    refine gPq.yes ⟨⟨l, ol, (tm_up_n (by decide)).trans (tm_up_s _ _ _)⟩, ⟨upd sz j 0, co, ed, tm_up_s _ _ _, ?_, ?_, fun g hg => ?_⟩, hs.fr (fun k h1 h2 => ?_)⟩ (fun k hk => ?_)
    · rw [tm_up_n (by decide), tm_up_n (by decide)]; exact a2
    · rw [tm_up_n (by decide), tm_up_n (by decide)]; exact a3
    · obtain ⟨b1, b2, b3, b4⟩ := a4 g hg
      unfold gPut
      dsimp only
      by_cases q : g = j
      · subst q
        rw [if_pos rfl, if_pos rfl, if_pos rfl, pk_us]
        exact ⟨rfl, gOk_0, fun v hv => absurd hv (Nat.not_lt_zero v), fun v w hv => absurd hv (Nat.not_lt_zero v)⟩
      · rw [if_neg q, if_neg q, if_neg q, pk_un q]
        exact ⟨b1, b2, b3, b4⟩
    · rw [tm_up_n (by omega), tm_up_n (by omega)]
    · rw [tm_up_n (by omega), tm_up_n (by omega)]
set_option maxRecDepth 20000 in
theorem c_R_paint {g v c : Int32} (hq : gYq S t h) : tm_C M_R_paint 20 0 [.ref 27, .int g, .int v, .int c] h (gPq h (o_paint S g v c)) := by
  obtain ⟨⟨l, ol, h0⟩, hd, hs⟩ := hq
  refine tm_C.by (L := [some (.ref 27), some (.int g), some (.int v), some (.int c), none]) rfl rfl rfl rfl rfl ?_
  have e8 : ¬ bI true = 0 := by decide
  have e1 : ¬ (1 : Int32) = 0 := by decide
  apply tm_run [] 80
  simp (disch := first | assumption | omega) only [↓reduceIte, tm_w_i, tm_w_0, Bool.false_eq_true, tm_gI_0, tm_gI_s, tm_gA_0, tm_gA_s, tm_fv_0, tm_fv_s, tm_p1_e, tm_pA_e, tm_pJ_e, tm_pV_i, tm_pV_r, tm_cI_e, tm_cZ_e, tm_cJ_e, tm_cQ_e, tm_cO_e, tm_rq_e, List.set_cons_zero, List.set_cons_succ, List.contains_cons, List.contains_nil, Nat.reduceBEq, Bool.or_false, Bool.false_or, Bool.or_true, Bool.true_or, Bool.or_self, cond_true, cond_false, true_and, and_true, or_true, true_or, true_implies, false_implies, not_true_eq_false, not_false_eq_true, List.length_cons, List.length_nil, Option.toList_some, Option.toList_none, List.cons_append, List.nil_append, ws_R_paint_0, ws_R_paint_1, ws_R_paint_2, ws_R_paint_3, ws_R_paint_4, ws_R_paint_7, ws_R_paint_10, ws_R_paint_11, ws_R_paint_14, ws_R_paint_15, ws_R_paint_18, ws_R_paint_19, ws_R_paint_20, ws_R_paint_23, ws_R_paint_24, ws_R_paint_27, ws_R_paint_28, ws_R_paint_31, ws_R_paint_34, ws_R_paint_35, ws_R_paint_36, ws_R_paint_37, ws_R_paint_38, ws_R_paint_39, ws_R_paint_42, ws_R_paint_44, ws_R_paint_45, ws_R_paint_48, ws_R_paint_50, ws_R_paint_51, ws_R_paint_52, ws_R_paint_53, ws_R_paint_54, ws_R_paint_55, ws_R_paint_56, ws_R_paint_58, tm_up_s, tm_up_n, tm_up_up, nI_leI, nI_ltI, nI_eq, nI_cl, nI_in', ix_1shl, ix_or, ix_xor, nI_1, bI_0, bI_1, bI_F, pk_us, pk_un]
  refine kd_R_paint_4 h0 (Nat.le_of_ble_eq_true rfl) (by omega) (by omega) (c_R_noVertex h0 hd) ?_
  have bad : gNv S g v = true → o_paint S g v c = (.inr 0, S) := by
    intro q
    unfold gNv at q
    unfold o_paint
    cases e : gI 3 g with
    | none => rfl
    | some j =>
      rw [e] at q
      dsimp only at q ⊢
      cases e2 : gI (S.1 j) v with
      | none => rfl
      | some w => rw [e2] at q; cases q
  cases hnv : gNv S g v with
  | true =>
    rw [bad hnv]
    apply tm_run [] 80
    simp (disch := first | assumption | omega) only [↓reduceIte, tm_w_i, tm_w_0, Bool.false_eq_true, tm_gI_0, tm_gI_s, tm_gA_0, tm_gA_s, tm_fv_0, tm_fv_s, tm_p1_e, tm_pA_e, tm_pJ_e, tm_pV_i, tm_pV_r, tm_cI_e, tm_cZ_e, tm_cJ_e, tm_cQ_e, tm_cO_e, tm_rq_e, List.set_cons_zero, List.set_cons_succ, List.contains_cons, List.contains_nil, Nat.reduceBEq, Bool.or_false, Bool.false_or, Bool.or_true, Bool.true_or, Bool.or_self, cond_true, cond_false, true_and, and_true, or_true, true_or, true_implies, false_implies, not_true_eq_false, not_false_eq_true, List.length_cons, List.length_nil, Option.toList_some, Option.toList_none, List.cons_append, List.nil_append, ws_R_paint_0, ws_R_paint_1, ws_R_paint_2, ws_R_paint_3, ws_R_paint_4, ws_R_paint_7, ws_R_paint_10, ws_R_paint_11, ws_R_paint_14, ws_R_paint_15, ws_R_paint_18, ws_R_paint_19, ws_R_paint_20, ws_R_paint_23, ws_R_paint_24, ws_R_paint_27, ws_R_paint_28, ws_R_paint_31, ws_R_paint_34, ws_R_paint_35, ws_R_paint_36, ws_R_paint_37, ws_R_paint_38, ws_R_paint_39, ws_R_paint_42, ws_R_paint_44, ws_R_paint_45, ws_R_paint_48, ws_R_paint_50, ws_R_paint_51, ws_R_paint_52, ws_R_paint_53, ws_R_paint_54, ws_R_paint_55, ws_R_paint_56, ws_R_paint_58, tm_up_s, tm_up_n, tm_up_up, nI_leI, nI_ltI, nI_eq, nI_cl, nI_in', ix_1shl, ix_or, ix_xor, nI_1, bI_0, bI_1, bI_F, pk_us, pk_un, e8]
    refine kd_R_paint_28 h0 (Nat.le_of_ble_eq_true rfl) (by omega) (by omega) (c_R_refk (k := 0) h0 (by decide)) ?_
    apply tm_run [] 80
    simp (disch := first | assumption | omega) only [↓reduceIte, tm_w_i, tm_w_0, Bool.false_eq_true, tm_gI_0, tm_gI_s, tm_gA_0, tm_gA_s, tm_fv_0, tm_fv_s, tm_p1_e, tm_pA_e, tm_pJ_e, tm_pV_i, tm_pV_r, tm_cI_e, tm_cZ_e, tm_cJ_e, tm_cQ_e, tm_cO_e, tm_rq_e, List.set_cons_zero, List.set_cons_succ, List.contains_cons, List.contains_nil, Nat.reduceBEq, Bool.or_false, Bool.false_or, Bool.or_true, Bool.true_or, Bool.or_self, cond_true, cond_false, true_and, and_true, or_true, true_or, true_implies, false_implies, not_true_eq_false, not_false_eq_true, List.length_cons, List.length_nil, Option.toList_some, Option.toList_none, List.cons_append, List.nil_append, ws_R_paint_0, ws_R_paint_1, ws_R_paint_2, ws_R_paint_3, ws_R_paint_4, ws_R_paint_7, ws_R_paint_10, ws_R_paint_11, ws_R_paint_14, ws_R_paint_15, ws_R_paint_18, ws_R_paint_19, ws_R_paint_20, ws_R_paint_23, ws_R_paint_24, ws_R_paint_27, ws_R_paint_28, ws_R_paint_31, ws_R_paint_34, ws_R_paint_35, ws_R_paint_36, ws_R_paint_37, ws_R_paint_38, ws_R_paint_39, ws_R_paint_42, ws_R_paint_44, ws_R_paint_45, ws_R_paint_48, ws_R_paint_50, ws_R_paint_51, ws_R_paint_52, ws_R_paint_53, ws_R_paint_54, ws_R_paint_55, ws_R_paint_56, ws_R_paint_58, tm_up_s, tm_up_n, tm_up_up, nI_leI, nI_ltI, nI_eq, nI_cl, nI_in', ix_1shl, ix_or, ix_xor, nI_1, bI_0, bI_1, bI_F, pk_us, pk_un, e1]
    exact gPq.no hd hs
  | false =>
    rcases gI_c (N := 3) (by decide) g with ⟨e, hx⟩ | ⟨j, hj, rfl, e⟩
    · simp only [gNv, e] at hnv; cases hnv
    · obtain ⟨sz, z1, z2, z3⟩ := hd.sz hj
      rcases gI_c (N := S.1 j) (by omega) v with ⟨e2, hv⟩ | ⟨v, hv, rfl, e2⟩
      · simp only [gNv, e, e2] at hnv; cases hnv
      · rcases gI_c (N := 4) (by decide) c with ⟨e3, hx | ⟨hx, hx2⟩⟩ | ⟨c, hc, rfl, e3⟩
        · simp only [o_paint, e, e2, e3]
          apply tm_run [] 80
          simp (disch := first | assumption | omega) only [↓reduceIte, tm_w_i, tm_w_0, Bool.false_eq_true, tm_gI_0, tm_gI_s, tm_gA_0, tm_gA_s, tm_fv_0, tm_fv_s, tm_p1_e, tm_pA_e, tm_pJ_e, tm_pV_i, tm_pV_r, tm_cI_e, tm_cZ_e, tm_cJ_e, tm_cQ_e, tm_cO_e, tm_rq_e, List.set_cons_zero, List.set_cons_succ, List.contains_cons, List.contains_nil, Nat.reduceBEq, Bool.or_false, Bool.false_or, Bool.or_true, Bool.true_or, Bool.or_self, cond_true, cond_false, true_and, and_true, or_true, true_or, true_implies, false_implies, not_true_eq_false, not_false_eq_true, List.length_cons, List.length_nil, Option.toList_some, Option.toList_none, List.cons_append, List.nil_append, ws_R_paint_0, ws_R_paint_1, ws_R_paint_2, ws_R_paint_3, ws_R_paint_4, ws_R_paint_7, ws_R_paint_10, ws_R_paint_11, ws_R_paint_14, ws_R_paint_15, ws_R_paint_18, ws_R_paint_19, ws_R_paint_20, ws_R_paint_23, ws_R_paint_24, ws_R_paint_27, ws_R_paint_28, ws_R_paint_31, ws_R_paint_34, ws_R_paint_35, ws_R_paint_36, ws_R_paint_37, ws_R_paint_38, ws_R_paint_39, ws_R_paint_42, ws_R_paint_44, ws_R_paint_45, ws_R_paint_48, ws_R_paint_50, ws_R_paint_51, ws_R_paint_52, ws_R_paint_53, ws_R_paint_54, ws_R_paint_55, ws_R_paint_56, ws_R_paint_58, tm_up_s, tm_up_n, tm_up_up, nI_leI, nI_ltI, nI_eq, nI_cl, nI_in', ix_1shl, ix_or, ix_xor, nI_1, bI_0, bI_1, bI_F, pk_us, pk_un, bI_f, hx]
          refine kd_R_paint_28 h0 (Nat.le_of_ble_eq_true rfl) (by omega) (by omega) (c_R_refk (k := 1) h0 (by decide)) ?_
          apply tm_run [] 80
          simp (disch := first | assumption | omega) only [↓reduceIte, tm_w_i, tm_w_0, Bool.false_eq_true, tm_gI_0, tm_gI_s, tm_gA_0, tm_gA_s, tm_fv_0, tm_fv_s, tm_p1_e, tm_pA_e, tm_pJ_e, tm_pV_i, tm_pV_r, tm_cI_e, tm_cZ_e, tm_cJ_e, tm_cQ_e, tm_cO_e, tm_rq_e, List.set_cons_zero, List.set_cons_succ, List.contains_cons, List.contains_nil, Nat.reduceBEq, Bool.or_false, Bool.false_or, Bool.or_true, Bool.true_or, Bool.or_self, cond_true, cond_false, true_and, and_true, or_true, true_or, true_implies, false_implies, not_true_eq_false, not_false_eq_true, List.length_cons, List.length_nil, Option.toList_some, Option.toList_none, List.cons_append, List.nil_append, ws_R_paint_0, ws_R_paint_1, ws_R_paint_2, ws_R_paint_3, ws_R_paint_4, ws_R_paint_7, ws_R_paint_10, ws_R_paint_11, ws_R_paint_14, ws_R_paint_15, ws_R_paint_18, ws_R_paint_19, ws_R_paint_20, ws_R_paint_23, ws_R_paint_24, ws_R_paint_27, ws_R_paint_28, ws_R_paint_31, ws_R_paint_34, ws_R_paint_35, ws_R_paint_36, ws_R_paint_37, ws_R_paint_38, ws_R_paint_39, ws_R_paint_42, ws_R_paint_44, ws_R_paint_45, ws_R_paint_48, ws_R_paint_50, ws_R_paint_51, ws_R_paint_52, ws_R_paint_53, ws_R_paint_54, ws_R_paint_55, ws_R_paint_56, ws_R_paint_58, tm_up_s, tm_up_n, tm_up_up, nI_leI, nI_ltI, nI_eq, nI_cl, nI_in', ix_1shl, ix_or, ix_xor, nI_1, bI_0, bI_1, bI_F, pk_us, pk_un, e1]
          exact gPq.no hd hs
        · simp only [o_paint, e, e2, e3]
          have h3 : ¬ c ≤ 3 := fun q => absurd (Int32.le_trans hx2 q) (by decide)
          apply tm_run [] 80
          simp (disch := first | assumption | omega) only [↓reduceIte, tm_w_i, tm_w_0, Bool.false_eq_true, tm_gI_0, tm_gI_s, tm_gA_0, tm_gA_s, tm_fv_0, tm_fv_s, tm_p1_e, tm_pA_e, tm_pJ_e, tm_pV_i, tm_pV_r, tm_cI_e, tm_cZ_e, tm_cJ_e, tm_cQ_e, tm_cO_e, tm_rq_e, List.set_cons_zero, List.set_cons_succ, List.contains_cons, List.contains_nil, Nat.reduceBEq, Bool.or_false, Bool.false_or, Bool.or_true, Bool.true_or, Bool.or_self, cond_true, cond_false, true_and, and_true, or_true, true_or, true_implies, false_implies, not_true_eq_false, not_false_eq_true, List.length_cons, List.length_nil, Option.toList_some, Option.toList_none, List.cons_append, List.nil_append, ws_R_paint_0, ws_R_paint_1, ws_R_paint_2, ws_R_paint_3, ws_R_paint_4, ws_R_paint_7, ws_R_paint_10, ws_R_paint_11, ws_R_paint_14, ws_R_paint_15, ws_R_paint_18, ws_R_paint_19, ws_R_paint_20, ws_R_paint_23, ws_R_paint_24, ws_R_paint_27, ws_R_paint_28, ws_R_paint_31, ws_R_paint_34, ws_R_paint_35, ws_R_paint_36, ws_R_paint_37, ws_R_paint_38, ws_R_paint_39, ws_R_paint_42, ws_R_paint_44, ws_R_paint_45, ws_R_paint_48, ws_R_paint_50, ws_R_paint_51, ws_R_paint_52, ws_R_paint_53, ws_R_paint_54, ws_R_paint_55, ws_R_paint_56, ws_R_paint_58, tm_up_s, tm_up_n, tm_up_up, nI_leI, nI_ltI, nI_eq, nI_cl, nI_in', ix_1shl, ix_or, ix_xor, nI_1, bI_0, bI_1, bI_F, pk_us, pk_un, bI_f, hx, h3]
          refine kd_R_paint_28 h0 (Nat.le_of_ble_eq_true rfl) (by omega) (by omega) (c_R_refk (k := 1) h0 (by decide)) ?_
          apply tm_run [] 80
          simp (disch := first | assumption | omega) only [↓reduceIte, tm_w_i, tm_w_0, Bool.false_eq_true, tm_gI_0, tm_gI_s, tm_gA_0, tm_gA_s, tm_fv_0, tm_fv_s, tm_p1_e, tm_pA_e, tm_pJ_e, tm_pV_i, tm_pV_r, tm_cI_e, tm_cZ_e, tm_cJ_e, tm_cQ_e, tm_cO_e, tm_rq_e, List.set_cons_zero, List.set_cons_succ, List.contains_cons, List.contains_nil, Nat.reduceBEq, Bool.or_false, Bool.false_or, Bool.or_true, Bool.true_or, Bool.or_self, cond_true, cond_false, true_and, and_true, or_true, true_or, true_implies, false_implies, not_true_eq_false, not_false_eq_true, List.length_cons, List.length_nil, Option.toList_some, Option.toList_none, List.cons_append, List.nil_append, ws_R_paint_0, ws_R_paint_1, ws_R_paint_2, ws_R_paint_3, ws_R_paint_4, ws_R_paint_7, ws_R_paint_10, ws_R_paint_11, ws_R_paint_14, ws_R_paint_15, ws_R_paint_18, ws_R_paint_19, ws_R_paint_20, ws_R_paint_23, ws_R_paint_24, ws_R_paint_27, ws_R_paint_28, ws_R_paint_31, ws_R_paint_34, ws_R_paint_35, ws_R_paint_36, ws_R_paint_37, ws_R_paint_38, ws_R_paint_39, ws_R_paint_42, ws_R_paint_44, ws_R_paint_45, ws_R_paint_48, ws_R_paint_50, ws_R_paint_51, ws_R_paint_52, ws_R_paint_53, ws_R_paint_54, ws_R_paint_55, ws_R_paint_56, ws_R_paint_58, tm_up_s, tm_up_n, tm_up_up, nI_leI, nI_ltI, nI_eq, nI_cl, nI_in', ix_1shl, ix_or, ix_xor, nI_1, bI_0, bI_1, bI_F, pk_us, pk_un, e1]
          exact gPq.no hd hs
        · simp only [o_paint, e, e2, e3]
          have hp : ¬ nI c < 0 := nI_pos (by omega)
          have h2 : c ≤ 3 := by omega
          apply tm_run [] 80
          simp (disch := first | assumption | omega) only [↓reduceIte, tm_w_i, tm_w_0, Bool.false_eq_true, tm_gI_0, tm_gI_s, tm_gA_0, tm_gA_s, tm_fv_0, tm_fv_s, tm_p1_e, tm_pA_e, tm_pJ_e, tm_pV_i, tm_pV_r, tm_cI_e, tm_cZ_e, tm_cJ_e, tm_cQ_e, tm_cO_e, tm_rq_e, List.set_cons_zero, List.set_cons_succ, List.contains_cons, List.contains_nil, Nat.reduceBEq, Bool.or_false, Bool.false_or, Bool.or_true, Bool.true_or, Bool.or_self, cond_true, cond_false, true_and, and_true, or_true, true_or, true_implies, false_implies, not_true_eq_false, not_false_eq_true, List.length_cons, List.length_nil, Option.toList_some, Option.toList_none, List.cons_append, List.nil_append, ws_R_paint_0, ws_R_paint_1, ws_R_paint_2, ws_R_paint_3, ws_R_paint_4, ws_R_paint_7, ws_R_paint_10, ws_R_paint_11, ws_R_paint_14, ws_R_paint_15, ws_R_paint_18, ws_R_paint_19, ws_R_paint_20, ws_R_paint_23, ws_R_paint_24, ws_R_paint_27, ws_R_paint_28, ws_R_paint_31, ws_R_paint_34, ws_R_paint_35, ws_R_paint_36, ws_R_paint_37, ws_R_paint_38, ws_R_paint_39, ws_R_paint_42, ws_R_paint_44, ws_R_paint_45, ws_R_paint_48, ws_R_paint_50, ws_R_paint_51, ws_R_paint_52, ws_R_paint_53, ws_R_paint_54, ws_R_paint_55, ws_R_paint_56, ws_R_paint_58, tm_up_s, tm_up_n, tm_up_up, nI_leI, nI_ltI, nI_eq, nI_cl, nI_in', ix_1shl, ix_or, ix_xor, nI_1, bI_0, bI_1, bI_F, pk_us, pk_un, bI_f, hp, i_3, h2]
          refine kd_R_paint_28 h0 (Nat.le_of_ble_eq_true rfl) (by omega) (by omega) (c_R_ref0 h0) ?_
          apply tm_run [] 80
          simp (disch := first | assumption | omega) only [↓reduceIte, tm_w_i, tm_w_0, Bool.false_eq_true, tm_gI_0, tm_gI_s, tm_gA_0, tm_gA_s, tm_fv_0, tm_fv_s, tm_p1_e, tm_pA_e, tm_pJ_e, tm_pV_i, tm_pV_r, tm_cI_e, tm_cZ_e, tm_cJ_e, tm_cQ_e, tm_cO_e, tm_rq_e, List.set_cons_zero, List.set_cons_succ, List.contains_cons, List.contains_nil, Nat.reduceBEq, Bool.or_false, Bool.false_or, Bool.or_true, Bool.true_or, Bool.or_self, cond_true, cond_false, true_and, and_true, or_true, true_or, true_implies, false_implies, not_true_eq_false, not_false_eq_true, List.length_cons, List.length_nil, Option.toList_some, Option.toList_none, List.cons_append, List.nil_append, ws_R_paint_0, ws_R_paint_1, ws_R_paint_2, ws_R_paint_3, ws_R_paint_4, ws_R_paint_7, ws_R_paint_10, ws_R_paint_11, ws_R_paint_14, ws_R_paint_15, ws_R_paint_18, ws_R_paint_19, ws_R_paint_20, ws_R_paint_23, ws_R_paint_24, ws_R_paint_27, ws_R_paint_28, ws_R_paint_31, ws_R_paint_34, ws_R_paint_35, ws_R_paint_36, ws_R_paint_37, ws_R_paint_38, ws_R_paint_39, ws_R_paint_42, ws_R_paint_44, ws_R_paint_45, ws_R_paint_48, ws_R_paint_50, ws_R_paint_51, ws_R_paint_52, ws_R_paint_53, ws_R_paint_54, ws_R_paint_55, ws_R_paint_56, ws_R_paint_58, tm_up_s, tm_up_n, tm_up_up, nI_leI, nI_ltI, nI_eq, nI_cl, nI_in', ix_1shl, ix_or, ix_xor, nI_1, bI_0, bI_1, bI_F, pk_us, pk_un]
          refine kd_R_paint_39 (tm_up_s _ _ _) (Nat.le_of_ble_eq_true rfl) (by omega) (by omega) (c_R_colourOf (tm_up_s _ _ _) (hd.fr (fun k hk => tm_up_n (by omega))) hj hv) ?_
          obtain ⟨sz, co, ed, a1, a2, a3, a4⟩ := hd
          have hK : 29 < tm_K := by decide
          apply tm_run [] 80
          simp (disch := first | assumption | omega) only [↓reduceIte, tm_w_i, tm_w_0, Bool.false_eq_true, tm_gI_0, tm_gI_s, tm_gA_0, tm_gA_s, tm_fv_0, tm_fv_s, tm_p1_e, tm_pA_e, tm_pJ_e, tm_pV_i, tm_pV_r, tm_cI_e, tm_cZ_e, tm_cJ_e, tm_cQ_e, tm_cO_e, tm_rq_e, List.set_cons_zero, List.set_cons_succ, List.contains_cons, List.contains_nil, Nat.reduceBEq, Bool.or_false, Bool.false_or, Bool.or_true, Bool.true_or, Bool.or_self, cond_true, cond_false, true_and, and_true, or_true, true_or, true_implies, false_implies, not_true_eq_false, not_false_eq_true, List.length_cons, List.length_nil, Option.toList_some, Option.toList_none, List.cons_append, List.nil_append, ws_R_paint_0, ws_R_paint_1, ws_R_paint_2, ws_R_paint_3, ws_R_paint_4, ws_R_paint_7, ws_R_paint_10, ws_R_paint_11, ws_R_paint_14, ws_R_paint_15, ws_R_paint_18, ws_R_paint_19, ws_R_paint_20, ws_R_paint_23, ws_R_paint_24, ws_R_paint_27, ws_R_paint_28, ws_R_paint_31, ws_R_paint_34, ws_R_paint_35, ws_R_paint_36, ws_R_paint_37, ws_R_paint_38, ws_R_paint_39, ws_R_paint_42, ws_R_paint_44, ws_R_paint_45, ws_R_paint_48, ws_R_paint_50, ws_R_paint_51, ws_R_paint_52, ws_R_paint_53, ws_R_paint_54, ws_R_paint_55, ws_R_paint_56, ws_R_paint_58, tm_up_s, tm_up_n, tm_up_up, nI_leI, nI_ltI, nI_eq, nI_cl, nI_in', ix_1shl, ix_or, ix_xor, nI_1, bI_0, bI_1, bI_F, pk_us, pk_un, a2, hK, i_7, pk_mul, nI_add]
          refine gPq.yes ⟨⟨l, ol, (tm_up_n (by decide)).trans (tm_up_s _ _ _)⟩, ⟨sz, upd co (7 * j + v) (nI c), ed, ?_, tm_up_s _ _ _, ?_, fun g hg => ?_⟩, hs.fr (fun k h1 h2 => ?_)⟩ (fun k hk => ?_)
          · rw [tm_up_n (by decide), tm_up_n (by decide)]; exact a1
          · rw [tm_up_n (by decide), tm_up_n (by decide)]; exact a3
          · obtain ⟨b1, b2, b3, b4⟩ := a4 g hg
            unfold gPut
            dsimp only
            by_cases q : g = j
            · subst q
              rw [if_pos rfl, if_pos rfl, if_pos rfl]
              refine ⟨b1, gOk_col b2 hc, fun w hw => ?_, b4⟩
              by_cases q : w = v
              · rw [q, pk_us, gUd_s]
              · rw [pk_un (by omega), gUd_n q]; exact b3 w hw
            · rw [if_neg q, if_neg q, if_neg q]
              have := b2.1
              exact ⟨b1, b2, fun w hw => by rw [pk_un (by omega)]; exact b3 w hw, b4⟩
          · rw [tm_up_n (by omega), tm_up_n (by omega)]
          · rw [tm_up_n (by omega), tm_up_n (by omega)]
set_option maxRecDepth 20000 in
theorem c_R_beside {g v : Int32} (hq : gYq S t h) : tm_C M_R_beside 20 0 [.ref 27, .int g, .int v] h (gPq h (o_beside S g v)) := by
  obtain ⟨⟨l, ol, h0⟩, hd, hs⟩ := hq
  refine tm_C.by (L := [some (.ref 27), some (.int g), some (.int v), none, none]) rfl rfl rfl rfl rfl ?_
  have e8 : ¬ bI true = 0 := by decide
  have e1 : ¬ (1 : Int32) = 0 := by decide
  apply tm_run [] 80
  simp (disch := first | assumption | omega) only [↓reduceIte, tm_w_i, tm_w_0, Bool.false_eq_true, tm_gI_0, tm_gI_s, tm_gA_0, tm_gA_s, tm_fv_0, tm_fv_s, tm_p1_e, tm_pA_e, tm_pJ_e, tm_pV_i, tm_pV_r, tm_cI_e, tm_cZ_e, tm_cJ_e, tm_cQ_e, tm_cO_e, tm_rq_e, List.set_cons_zero, List.set_cons_succ, List.contains_cons, List.contains_nil, Nat.reduceBEq, Bool.or_false, Bool.false_or, Bool.or_true, Bool.true_or, Bool.or_self, cond_true, cond_false, true_and, and_true, or_true, true_or, true_implies, false_implies, not_true_eq_false, not_false_eq_true, List.length_cons, List.length_nil, Option.toList_some, Option.toList_none, List.cons_append, List.nil_append, ws_R_beside_0, ws_R_beside_1, ws_R_beside_2, ws_R_beside_3, ws_R_beside_4, ws_R_beside_7, ws_R_beside_10, ws_R_beside_11, ws_R_beside_14, ws_R_beside_15, ws_R_beside_18, ws_R_beside_21, ws_R_beside_22, ws_R_beside_23, ws_R_beside_24, ws_R_beside_25, ws_R_beside_26, ws_R_beside_28, ws_R_beside_30, ws_R_beside_31, ws_R_beside_34, ws_R_beside_35, ws_R_beside_36, ws_R_beside_39, ws_R_beside_40, ws_R_beside_41, ws_R_beside_42, ws_R_beside_44, ws_R_beside_47, ws_R_beside_50, ws_R_beside_51, ws_R_beside_52, ws_R_beside_54, ws_R_beside_55, ws_R_beside_56, ws_R_beside_59, ws_R_beside_60, ws_R_beside_61, ws_R_beside_64, ws_R_beside_67, ws_R_beside_68, tm_up_s, tm_up_n, tm_up_up, nI_leI, nI_ltI, nI_eq, nI_cl, nI_in', ix_1shl, ix_or, ix_xor, nI_1, bI_0, bI_1, bI_F, pk_us, pk_un]
  refine kd_R_beside_4 h0 (Nat.le_of_ble_eq_true rfl) (by omega) (by omega) (c_R_noVertex h0 hd) ?_
  have bad : gNv S g v = true → o_beside S g v = (.inr 0, S) := by
    intro q
    unfold gNv at q
    unfold o_beside
    cases e : gI 3 g with
    | none => rfl
    | some j =>
      rw [e] at q
      dsimp only at q ⊢
      cases e2 : gI (S.1 j) v with
      | none => rfl
      | some w => rw [e2] at q; cases q
  cases hnv : gNv S g v with
  | true =>
    rw [bad hnv]
    apply tm_run [] 80
    simp (disch := first | assumption | omega) only [↓reduceIte, tm_w_i, tm_w_0, Bool.false_eq_true, tm_gI_0, tm_gI_s, tm_gA_0, tm_gA_s, tm_fv_0, tm_fv_s, tm_p1_e, tm_pA_e, tm_pJ_e, tm_pV_i, tm_pV_r, tm_cI_e, tm_cZ_e, tm_cJ_e, tm_cQ_e, tm_cO_e, tm_rq_e, List.set_cons_zero, List.set_cons_succ, List.contains_cons, List.contains_nil, Nat.reduceBEq, Bool.or_false, Bool.false_or, Bool.or_true, Bool.true_or, Bool.or_self, cond_true, cond_false, true_and, and_true, or_true, true_or, true_implies, false_implies, not_true_eq_false, not_false_eq_true, List.length_cons, List.length_nil, Option.toList_some, Option.toList_none, List.cons_append, List.nil_append, ws_R_beside_0, ws_R_beside_1, ws_R_beside_2, ws_R_beside_3, ws_R_beside_4, ws_R_beside_7, ws_R_beside_10, ws_R_beside_11, ws_R_beside_14, ws_R_beside_15, ws_R_beside_18, ws_R_beside_21, ws_R_beside_22, ws_R_beside_23, ws_R_beside_24, ws_R_beside_25, ws_R_beside_26, ws_R_beside_28, ws_R_beside_30, ws_R_beside_31, ws_R_beside_34, ws_R_beside_35, ws_R_beside_36, ws_R_beside_39, ws_R_beside_40, ws_R_beside_41, ws_R_beside_42, ws_R_beside_44, ws_R_beside_47, ws_R_beside_50, ws_R_beside_51, ws_R_beside_52, ws_R_beside_54, ws_R_beside_55, ws_R_beside_56, ws_R_beside_59, ws_R_beside_60, ws_R_beside_61, ws_R_beside_64, ws_R_beside_67, ws_R_beside_68, tm_up_s, tm_up_n, tm_up_up, nI_leI, nI_ltI, nI_eq, nI_cl, nI_in', ix_1shl, ix_or, ix_xor, nI_1, bI_0, bI_1, bI_F, pk_us, pk_un, e8]
    refine kd_R_beside_15 h0 (Nat.le_of_ble_eq_true rfl) (by omega) (by omega) (c_R_refk (k := 0) h0 (by decide)) ?_
    apply tm_run [] 80
    simp (disch := first | assumption | omega) only [↓reduceIte, tm_w_i, tm_w_0, Bool.false_eq_true, tm_gI_0, tm_gI_s, tm_gA_0, tm_gA_s, tm_fv_0, tm_fv_s, tm_p1_e, tm_pA_e, tm_pJ_e, tm_pV_i, tm_pV_r, tm_cI_e, tm_cZ_e, tm_cJ_e, tm_cQ_e, tm_cO_e, tm_rq_e, List.set_cons_zero, List.set_cons_succ, List.contains_cons, List.contains_nil, Nat.reduceBEq, Bool.or_false, Bool.false_or, Bool.or_true, Bool.true_or, Bool.or_self, cond_true, cond_false, true_and, and_true, or_true, true_or, true_implies, false_implies, not_true_eq_false, not_false_eq_true, List.length_cons, List.length_nil, Option.toList_some, Option.toList_none, List.cons_append, List.nil_append, ws_R_beside_0, ws_R_beside_1, ws_R_beside_2, ws_R_beside_3, ws_R_beside_4, ws_R_beside_7, ws_R_beside_10, ws_R_beside_11, ws_R_beside_14, ws_R_beside_15, ws_R_beside_18, ws_R_beside_21, ws_R_beside_22, ws_R_beside_23, ws_R_beside_24, ws_R_beside_25, ws_R_beside_26, ws_R_beside_28, ws_R_beside_30, ws_R_beside_31, ws_R_beside_34, ws_R_beside_35, ws_R_beside_36, ws_R_beside_39, ws_R_beside_40, ws_R_beside_41, ws_R_beside_42, ws_R_beside_44, ws_R_beside_47, ws_R_beside_50, ws_R_beside_51, ws_R_beside_52, ws_R_beside_54, ws_R_beside_55, ws_R_beside_56, ws_R_beside_59, ws_R_beside_60, ws_R_beside_61, ws_R_beside_64, ws_R_beside_67, ws_R_beside_68, tm_up_s, tm_up_n, tm_up_up, nI_leI, nI_ltI, nI_eq, nI_cl, nI_in', ix_1shl, ix_or, ix_xor, nI_1, bI_0, bI_1, bI_F, pk_us, pk_un, e1]
    exact gPq.no hd hs
  | false =>
    rcases gI_c (N := 3) (by decide) g with ⟨e, hx⟩ | ⟨j, hj, rfl, e⟩
    · simp only [gNv, e] at hnv; cases hnv
    · obtain ⟨sz, z1, z2, z3⟩ := hd.sz hj
      rcases gI_c (N := S.1 j) (by omega) v with ⟨e2, hv⟩ | ⟨v, hv, rfl, e2⟩
      · simp only [gNv, e, e2] at hnv; cases hnv
      · simp only [o_beside, e, e2]
        apply tm_run [28] 80
        simp (disch := first | assumption | omega) only [↓reduceIte, tm_w_i, tm_w_0, Bool.false_eq_true, tm_gI_0, tm_gI_s, tm_gA_0, tm_gA_s, tm_fv_0, tm_fv_s, tm_p1_e, tm_pA_e, tm_pJ_e, tm_pV_i, tm_pV_r, tm_cI_e, tm_cZ_e, tm_cJ_e, tm_cQ_e, tm_cO_e, tm_rq_e, List.set_cons_zero, List.set_cons_succ, List.contains_cons, List.contains_nil, Nat.reduceBEq, Bool.or_false, Bool.false_or, Bool.or_true, Bool.true_or, Bool.or_self, cond_true, cond_false, true_and, and_true, or_true, true_or, true_implies, false_implies, not_true_eq_false, not_false_eq_true, List.length_cons, List.length_nil, Option.toList_some, Option.toList_none, List.cons_append, List.nil_append, ws_R_beside_0, ws_R_beside_1, ws_R_beside_2, ws_R_beside_3, ws_R_beside_4, ws_R_beside_7, ws_R_beside_10, ws_R_beside_11, ws_R_beside_14, ws_R_beside_15, ws_R_beside_18, ws_R_beside_21, ws_R_beside_22, ws_R_beside_23, ws_R_beside_24, ws_R_beside_25, ws_R_beside_26, ws_R_beside_28, ws_R_beside_30, ws_R_beside_31, ws_R_beside_34, ws_R_beside_35, ws_R_beside_36, ws_R_beside_39, ws_R_beside_40, ws_R_beside_41, ws_R_beside_42, ws_R_beside_44, ws_R_beside_47, ws_R_beside_50, ws_R_beside_51, ws_R_beside_52, ws_R_beside_54, ws_R_beside_55, ws_R_beside_56, ws_R_beside_59, ws_R_beside_60, ws_R_beside_61, ws_R_beside_64, ws_R_beside_67, ws_R_beside_68, tm_up_s, tm_up_n, tm_up_up, nI_leI, nI_ltI, nI_eq, nI_cl, nI_in', ix_1shl, ix_or, ix_xor, nI_1, bI_0, bI_1, bI_F, pk_us, pk_un, bI_f]
        refine kd_R_beside_15 h0 (Nat.le_of_ble_eq_true rfl) (by omega) (by omega) (c_R_ref0 h0) ?_
        have hd' : gYd S (tm_up h 27 (tm_o 5 [.int 0, .ref 28, .ref 29, .ref 30, .ref 31, .ref 32, .int l, .ref 33, .int ol, .ref 34, .ref 35, .ref 36, .ref 37])) := hd.fr (fun k hk => tm_up_n (by omega))
        have hok : gOk (S.1 j) (S.2.1 j) (S.2.2 j) := by obtain ⟨_, _, _, _, _, _, a4⟩ := hd; exact (a4 j hj).2.1
        have ev : gMk (fun w => (S.2.2 j v).testBit w) (S.1 j) = S.2.2 j v := by
          apply Nat.eq_of_testBit_eq
          intro i
          rw [gMk_bit]
          by_cases hi : i < S.1 j
          · simp [hi]
          · have : 2 ^ S.1 j ≤ 2 ^ i := Nat.pow_le_pow_right (by decide) (by omega)
            rw [Nat.testBit_lt_two_pow (Nat.lt_of_lt_of_le (hok.2 v hv).2.1 this)]
            simp [hi]
        apply tm_run [28] 80
        simp (disch := first | assumption | omega) only [↓reduceIte, tm_w_i, tm_w_0, Bool.false_eq_true, tm_gI_0, tm_gI_s, tm_gA_0, tm_gA_s, tm_fv_0, tm_fv_s, tm_p1_e, tm_pA_e, tm_pJ_e, tm_pV_i, tm_pV_r, tm_cI_e, tm_cZ_e, tm_cJ_e, tm_cQ_e, tm_cO_e, tm_rq_e, List.set_cons_zero, List.set_cons_succ, List.contains_cons, List.contains_nil, Nat.reduceBEq, Bool.or_false, Bool.false_or, Bool.or_true, Bool.true_or, Bool.or_self, cond_true, cond_false, true_and, and_true, or_true, true_or, true_implies, false_implies, not_true_eq_false, not_false_eq_true, List.length_cons, List.length_nil, Option.toList_some, Option.toList_none, List.cons_append, List.nil_append, ws_R_beside_0, ws_R_beside_1, ws_R_beside_2, ws_R_beside_3, ws_R_beside_4, ws_R_beside_7, ws_R_beside_10, ws_R_beside_11, ws_R_beside_14, ws_R_beside_15, ws_R_beside_18, ws_R_beside_21, ws_R_beside_22, ws_R_beside_23, ws_R_beside_24, ws_R_beside_25, ws_R_beside_26, ws_R_beside_28, ws_R_beside_30, ws_R_beside_31, ws_R_beside_34, ws_R_beside_35, ws_R_beside_36, ws_R_beside_39, ws_R_beside_40, ws_R_beside_41, ws_R_beside_42, ws_R_beside_44, ws_R_beside_47, ws_R_beside_50, ws_R_beside_51, ws_R_beside_52, ws_R_beside_54, ws_R_beside_55, ws_R_beside_56, ws_R_beside_59, ws_R_beside_60, ws_R_beside_61, ws_R_beside_64, ws_R_beside_67, ws_R_beside_68, tm_up_s, tm_up_n, tm_up_up, nI_leI, nI_ltI, nI_eq, nI_cl, nI_in', ix_1shl, ix_or, ix_xor, nI_1, bI_0, bI_1, bI_F, pk_us, pk_un]
        have key : ∀ k w, w + k = S.1 j → tm_T M_R_beside 20 0 (gPq h (.inl (nI (S.2.2 j v)), S)) 0 28 [some (.ref 27), some (.int (nI j)), some (.int (nI v)), some (.int (nI (gMk (fun w => (S.2.2 j v).testBit w) w))), some (.int (nI w))] [] (tm_up h 27 (tm_o 5 [.int 0, .ref 28, .ref 29, .ref 30, .ref 31, .ref 32, .int l, .ref 33, .int ol, .ref 34, .ref 35, .ref 36, .ref 37])) := by
          intro k
          induction k with
          | zero =>
            intro w hw
            obtain rfl : w = S.1 j := by omega
            apply tm_run [28] 80
            simp (disch := first | assumption | omega) only [↓reduceIte, tm_w_i, tm_w_0, Bool.false_eq_true, tm_gI_0, tm_gI_s, tm_gA_0, tm_gA_s, tm_fv_0, tm_fv_s, tm_p1_e, tm_pA_e, tm_pJ_e, tm_pV_i, tm_pV_r, tm_cI_e, tm_cZ_e, tm_cJ_e, tm_cQ_e, tm_cO_e, tm_rq_e, List.set_cons_zero, List.set_cons_succ, List.contains_cons, List.contains_nil, Nat.reduceBEq, Bool.or_false, Bool.false_or, Bool.or_true, Bool.true_or, Bool.or_self, cond_true, cond_false, true_and, and_true, or_true, true_or, true_implies, false_implies, not_true_eq_false, not_false_eq_true, List.length_cons, List.length_nil, Option.toList_some, Option.toList_none, List.cons_append, List.nil_append, ws_R_beside_0, ws_R_beside_1, ws_R_beside_2, ws_R_beside_3, ws_R_beside_4, ws_R_beside_7, ws_R_beside_10, ws_R_beside_11, ws_R_beside_14, ws_R_beside_15, ws_R_beside_18, ws_R_beside_21, ws_R_beside_22, ws_R_beside_23, ws_R_beside_24, ws_R_beside_25, ws_R_beside_26, ws_R_beside_28, ws_R_beside_30, ws_R_beside_31, ws_R_beside_34, ws_R_beside_35, ws_R_beside_36, ws_R_beside_39, ws_R_beside_40, ws_R_beside_41, ws_R_beside_42, ws_R_beside_44, ws_R_beside_47, ws_R_beside_50, ws_R_beside_51, ws_R_beside_52, ws_R_beside_54, ws_R_beside_55, ws_R_beside_56, ws_R_beside_59, ws_R_beside_60, ws_R_beside_61, ws_R_beside_64, ws_R_beside_67, ws_R_beside_68, tm_up_s, tm_up_n, tm_up_up, nI_leI, nI_ltI, nI_eq, nI_cl, nI_in', ix_1shl, ix_or, ix_xor, nI_1, bI_0, bI_1, bI_F, pk_us, pk_un, z1, z2, Nat.le_refl]
            rw [ev]
            exact gPq.yes ⟨⟨l, ol, tm_up_s _ _ _⟩, hd', hs.fr (fun k h1 h2 => tm_up_n (by omega))⟩ (fun k hk => tm_up_n (by omega))
          | succ k ih =>
            intro w hw
            have hlt : ¬ S.1 j ≤ w := by omega
            have := ih (w + 1) (by omega)
            rw [gMk_step] at this
            apply tm_run [28] 80
            simp (disch := first | assumption | omega) only [↓reduceIte, tm_w_i, tm_w_0, Bool.false_eq_true, tm_gI_0, tm_gI_s, tm_gA_0, tm_gA_s, tm_fv_0, tm_fv_s, tm_p1_e, tm_pA_e, tm_pJ_e, tm_pV_i, tm_pV_r, tm_cI_e, tm_cZ_e, tm_cJ_e, tm_cQ_e, tm_cO_e, tm_rq_e, List.set_cons_zero, List.set_cons_succ, List.contains_cons, List.contains_nil, Nat.reduceBEq, Bool.or_false, Bool.false_or, Bool.or_true, Bool.true_or, Bool.or_self, cond_true, cond_false, true_and, and_true, or_true, true_or, true_implies, false_implies, not_true_eq_false, not_false_eq_true, List.length_cons, List.length_nil, Option.toList_some, Option.toList_none, List.cons_append, List.nil_append, ws_R_beside_0, ws_R_beside_1, ws_R_beside_2, ws_R_beside_3, ws_R_beside_4, ws_R_beside_7, ws_R_beside_10, ws_R_beside_11, ws_R_beside_14, ws_R_beside_15, ws_R_beside_18, ws_R_beside_21, ws_R_beside_22, ws_R_beside_23, ws_R_beside_24, ws_R_beside_25, ws_R_beside_26, ws_R_beside_28, ws_R_beside_30, ws_R_beside_31, ws_R_beside_34, ws_R_beside_35, ws_R_beside_36, ws_R_beside_39, ws_R_beside_40, ws_R_beside_41, ws_R_beside_42, ws_R_beside_44, ws_R_beside_47, ws_R_beside_50, ws_R_beside_51, ws_R_beside_52, ws_R_beside_54, ws_R_beside_55, ws_R_beside_56, ws_R_beside_59, ws_R_beside_60, ws_R_beside_61, ws_R_beside_64, ws_R_beside_67, ws_R_beside_68, tm_up_s, tm_up_n, tm_up_up, nI_leI, nI_ltI, nI_eq, nI_cl, nI_in', ix_1shl, ix_or, ix_xor, nI_1, bI_0, bI_1, bI_F, pk_us, pk_un, z1, z2, hlt]
            refine kd_R_beside_44 (tm_up_s _ _ _) (Nat.le_of_ble_eq_true rfl) (by omega) (by omega) (c_R_isEdge (tm_up_s _ _ _) hd' hj hv (by omega)) ?_
            cases b1 : (S.2.2 j v).testBit w with
            | false =>
              rw [b1] at this
              apply tm_run [28] 80
              simp (disch := first | assumption | omega) only [↓reduceIte, tm_w_i, tm_w_0, Bool.false_eq_true, tm_gI_0, tm_gI_s, tm_gA_0, tm_gA_s, tm_fv_0, tm_fv_s, tm_p1_e, tm_pA_e, tm_pJ_e, tm_pV_i, tm_pV_r, tm_cI_e, tm_cZ_e, tm_cJ_e, tm_cQ_e, tm_cO_e, tm_rq_e, List.set_cons_zero, List.set_cons_succ, List.contains_cons, List.contains_nil, Nat.reduceBEq, Bool.or_false, Bool.false_or, Bool.or_true, Bool.true_or, Bool.or_self, cond_true, cond_false, true_and, and_true, or_true, true_or, true_implies, false_implies, not_true_eq_false, not_false_eq_true, List.length_cons, List.length_nil, Option.toList_some, Option.toList_none, List.cons_append, List.nil_append, ws_R_beside_0, ws_R_beside_1, ws_R_beside_2, ws_R_beside_3, ws_R_beside_4, ws_R_beside_7, ws_R_beside_10, ws_R_beside_11, ws_R_beside_14, ws_R_beside_15, ws_R_beside_18, ws_R_beside_21, ws_R_beside_22, ws_R_beside_23, ws_R_beside_24, ws_R_beside_25, ws_R_beside_26, ws_R_beside_28, ws_R_beside_30, ws_R_beside_31, ws_R_beside_34, ws_R_beside_35, ws_R_beside_36, ws_R_beside_39, ws_R_beside_40, ws_R_beside_41, ws_R_beside_42, ws_R_beside_44, ws_R_beside_47, ws_R_beside_50, ws_R_beside_51, ws_R_beside_52, ws_R_beside_54, ws_R_beside_55, ws_R_beside_56, ws_R_beside_59, ws_R_beside_60, ws_R_beside_61, ws_R_beside_64, ws_R_beside_67, ws_R_beside_68, tm_up_s, tm_up_n, tm_up_up, nI_leI, nI_ltI, nI_eq, nI_cl, nI_in', ix_1shl, ix_or, ix_xor, nI_1, bI_0, bI_1, bI_F, pk_us, pk_un, bI_f]
              exact this
            | true =>
              rw [b1] at this
              apply tm_run [28] 80
              simp (disch := first | assumption | omega) only [↓reduceIte, tm_w_i, tm_w_0, Bool.false_eq_true, tm_gI_0, tm_gI_s, tm_gA_0, tm_gA_s, tm_fv_0, tm_fv_s, tm_p1_e, tm_pA_e, tm_pJ_e, tm_pV_i, tm_pV_r, tm_cI_e, tm_cZ_e, tm_cJ_e, tm_cQ_e, tm_cO_e, tm_rq_e, List.set_cons_zero, List.set_cons_succ, List.contains_cons, List.contains_nil, Nat.reduceBEq, Bool.or_false, Bool.false_or, Bool.or_true, Bool.true_or, Bool.or_self, cond_true, cond_false, true_and, and_true, or_true, true_or, true_implies, false_implies, not_true_eq_false, not_false_eq_true, List.length_cons, List.length_nil, Option.toList_some, Option.toList_none, List.cons_append, List.nil_append, ws_R_beside_0, ws_R_beside_1, ws_R_beside_2, ws_R_beside_3, ws_R_beside_4, ws_R_beside_7, ws_R_beside_10, ws_R_beside_11, ws_R_beside_14, ws_R_beside_15, ws_R_beside_18, ws_R_beside_21, ws_R_beside_22, ws_R_beside_23, ws_R_beside_24, ws_R_beside_25, ws_R_beside_26, ws_R_beside_28, ws_R_beside_30, ws_R_beside_31, ws_R_beside_34, ws_R_beside_35, ws_R_beside_36, ws_R_beside_39, ws_R_beside_40, ws_R_beside_41, ws_R_beside_42, ws_R_beside_44, ws_R_beside_47, ws_R_beside_50, ws_R_beside_51, ws_R_beside_52, ws_R_beside_54, ws_R_beside_55, ws_R_beside_56, ws_R_beside_59, ws_R_beside_60, ws_R_beside_61, ws_R_beside_64, ws_R_beside_67, ws_R_beside_68, tm_up_s, tm_up_n, tm_up_up, nI_leI, nI_ltI, nI_eq, nI_cl, nI_in', ix_1shl, ix_or, ix_xor, nI_1, bI_0, bI_1, bI_F, pk_us, pk_un, e8]
              exact this
        exact key (S.1 j) 0 (by omega)
end CB
