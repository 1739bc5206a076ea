section BE
variable {h : tm_Hp} {p a b n : Nat} {c f : Nat → Int32} {nb cc : Nat → Nat}
/-- the graph's colours in an array -/
def gC (n : Nat) (c : Nat → Int32) (cc : Nat → Nat) : Prop := ∀ i, i < n → c i = nI (cc i) ∧ cc i < 4
theorem l_G_coloured {Q : tm_O → tm_Hp → Prop} {x : Nat} (hx : x < 4) (hp : h p = tm_o 1 [.int (nI n), .ref a, .ref b]) (ha : h a = tm_i 7 c) (hn : n ≤ 7) (hc : gC n c cc) (hQ : Q (.inl (some (.int (nI (gMk (fun i => cc i == x) n))))) h) :
    ∀ k v, v + k = n → tm_T M_G_coloured 0 0 Q 0 4 [some (.ref p), some (.int (nI x)), some (.int (nI (gMk (fun i => cc i == x) v))), some (.int (nI v))] [] h := by
  intro k
  induction k with
  | zero =>
    intro v hv
    obtain rfl : v = n := by omega
    apply tm_run [4] 30
    simp only [tm_w_s, tm_w_0, tm_gI_0, tm_gI_s, tm_gA_0, tm_gA_s, tm_fv_0, tm_fv_s, tm_p1_e, tm_pA_e, tm_pJ_e, tm_pV_i, tm_pV_r, tm_cI_e, tm_cZ_e, tm_cJ_e, tm_cQ_e, tm_cO_e, tm_rq_e, List.set_cons_zero, List.set_cons_succ, List.contains_cons, List.contains_nil, Nat.reduceBEq, Bool.or_false, Bool.false_or, Bool.or_true, Bool.true_or, Bool.or_self, cond_true, cond_false, true_and, and_true, or_true, true_or, true_implies, false_implies, not_true_eq_false, not_false_eq_true, List.length_cons, List.length_nil, Option.toList_some, Option.toList_none, List.cons_append, List.nil_append, ws_G_coloured_0, ws_G_coloured_1, ws_G_coloured_2, ws_G_coloured_3, ws_G_coloured_4, ws_G_coloured_5, ws_G_coloured_6, ws_G_coloured_9, ws_G_coloured_12, ws_G_coloured_13, ws_G_coloured_16, ws_G_coloured_17, ws_G_coloured_18, ws_G_coloured_19, ws_G_coloured_22, ws_G_coloured_23, ws_G_coloured_24, ws_G_coloured_25, ws_G_coloured_26, ws_G_coloured_27, ws_G_coloured_28, ws_G_coloured_31, ws_G_coloured_34, ws_G_coloured_35, hp, nI_leI (show v < 2 ^ 31 by omega) (show v < 2 ^ 31 by omega), Nat.le_refl]
    exact hQ
  | succ k ih =>
    intro v hv
    have hlt : ¬ n ≤ v := by omega
    obtain ⟨h1, h2⟩ := hc v (by omega)
    apply tm_run [4] 30
    simp only [tm_w_s, tm_w_0, tm_gI_0, tm_gI_s, tm_gA_0, tm_gA_s, tm_fv_0, tm_fv_s, tm_p1_e, tm_pA_e, tm_pJ_e, tm_pV_i, tm_pV_r, tm_cI_e, tm_cZ_e, tm_cJ_e, tm_cQ_e, tm_cO_e, tm_rq_e, List.set_cons_zero, List.set_cons_succ, List.contains_cons, List.contains_nil, Nat.reduceBEq, Bool.or_false, Bool.false_or, Bool.or_true, Bool.true_or, Bool.or_self, cond_true, cond_false, true_and, and_true, or_true, true_or, true_implies, false_implies, not_true_eq_false, not_false_eq_true, List.length_cons, List.length_nil, Option.toList_some, Option.toList_none, List.cons_append, List.nil_append, ws_G_coloured_0, ws_G_coloured_1, ws_G_coloured_2, ws_G_coloured_3, ws_G_coloured_4, ws_G_coloured_5, ws_G_coloured_6, ws_G_coloured_9, ws_G_coloured_12, ws_G_coloured_13, ws_G_coloured_16, ws_G_coloured_17, ws_G_coloured_18, ws_G_coloured_19, ws_G_coloured_22, ws_G_coloured_23, ws_G_coloured_24, ws_G_coloured_25, ws_G_coloured_26, ws_G_coloured_27, ws_G_coloured_28, ws_G_coloured_31, ws_G_coloured_34, ws_G_coloured_35, hp, ha, nI_leI (show n < 2 ^ 31 by omega) (show v < 2 ^ 31 by omega), hlt, nI_cl (show v < 2560 by omega), h1, nI_eq (show cc v < 2 ^ 31 by omega) (show x < 2 ^ 31 by omega), ix_1shl (show v < 31 by omega), ix_or, nI_1]
    refine ⟨nI_in' (by omega) (by decide), fun e => ?_, fun e => ?_⟩
    · have := ih (v + 1) (by omega)
      simp only [gMk, beq_iff_eq, e, if_false, Nat.or_zero] at this
      exact this
    · have e' : cc v = x := Classical.byContradiction e
      have := ih (v + 1) (by omega)
      simp only [gMk, beq_iff_eq, e', if_true] at this
      exact this
theorem c_G_coloured {x : Nat} (hx : x < 4) (hp : h p = tm_o 1 [.int (nI n), .ref a, .ref b]) (ha : h a = tm_i 7 c) (hn : n ≤ 7) (hc : gC n c cc) : tm_C M_G_coloured 0 0 [.ref p, .int (nI x)] h (fun o k => o = .inl (some (.int (nI (gMk (fun i => cc i == x) n)))) ∧ k = h) := by
  refine tm_C.by (L := [some (.ref p), some (.int (nI x)), none, none]) rfl rfl rfl rfl rfl ?_
  apply tm_run [4] 30
  simp only [tm_w_s, tm_w_0, tm_gI_0, tm_gI_s, tm_gA_0, tm_gA_s, tm_fv_0, tm_fv_s, tm_p1_e, tm_pA_e, tm_pJ_e, tm_pV_i, tm_pV_r, tm_cI_e, tm_cZ_e, tm_cJ_e, tm_cQ_e, tm_cO_e, tm_rq_e, List.set_cons_zero, List.set_cons_succ, List.contains_cons, List.contains_nil, Nat.reduceBEq, Bool.or_false, Bool.false_or, Bool.or_true, Bool.true_or, Bool.or_self, cond_true, cond_false, true_and, and_true, or_true, true_or, true_implies, false_implies, not_true_eq_false, not_false_eq_true, List.length_cons, List.length_nil, Option.toList_some, Option.toList_none, List.cons_append, List.nil_append, ws_G_coloured_0, ws_G_coloured_1, ws_G_coloured_2, ws_G_coloured_3, ws_G_coloured_4, ws_G_coloured_5, ws_G_coloured_6, ws_G_coloured_9, ws_G_coloured_12, ws_G_coloured_13, ws_G_coloured_16, ws_G_coloured_17, ws_G_coloured_18, ws_G_coloured_19, ws_G_coloured_22, ws_G_coloured_23, ws_G_coloured_24, ws_G_coloured_25, ws_G_coloured_26, ws_G_coloured_27, ws_G_coloured_28, ws_G_coloured_31, ws_G_coloured_34, ws_G_coloured_35]
  exact l_G_coloured hx hp ha hn hc ⟨rfl, rfl⟩ n 0 (by omega)
/-- how many vertices of a colour -/
def gNc (cc : Nat → Nat) (n x : Nat) : Nat := gpc (gMk (fun i => cc i == x) n)
theorem l_G_hasColoursOf {Q : tm_O → tm_Hp → Prop} {p' a' b' n' : Nat} {c' : Nat → Int32} {cc' : Nat → Nat} (hp : h p = tm_o 1 [.int (nI n), .ref a, .ref b]) (ha : h a = tm_i 7 c) (hn : n ≤ 7) (hc : gC n c cc) (hp' : h p' = tm_o 1 [.int (nI n'), .ref a', .ref b']) (ha' : h a' = tm_i 7 c') (hn' : n' ≤ 7) (hc' : gC n' c' cc')
    (hQ : ∀ r : Bool, (r = true ↔ ∀ x, x < 4 → gNc cc n x = gNc cc' n' x) → Q (.inl (some (.int (bI r)))) h) :
    ∀ k x, x + k = 4 → (∀ y, y < x → gNc cc n y = gNc cc' n' y) → tm_T M_G_hasColoursOf 1 0 Q 0 2 [some (.ref p), some (.ref p'), some (.int (nI x))] [] h := by
  intro k
  induction k with
  | zero =>
    intro x hx hi
    obtain rfl : x = 4 := by omega
    apply tm_run [2] 30
    simp only [tm_w_s, tm_w_0, tm_gI_0, tm_gI_s, tm_gA_0, tm_gA_s, tm_fv_0, tm_fv_s, tm_p1_e, tm_pA_e, tm_pJ_e, tm_pV_i, tm_pV_r, tm_cI_e, tm_cZ_e, tm_cJ_e, tm_cQ_e, tm_cO_e, tm_rq_e, List.set_cons_zero, List.set_cons_succ, List.contains_cons, List.contains_nil, Nat.reduceBEq, Bool.or_false, Bool.false_or, Bool.or_true, Bool.true_or, Bool.or_self, cond_true, cond_false, true_and, and_true, or_true, true_or, true_implies, false_implies, not_true_eq_false, not_false_eq_true, List.length_cons, List.length_nil, Option.toList_some, Option.toList_none, List.cons_append, List.nil_append, ws_G_hasColoursOf_0, ws_G_hasColoursOf_1, ws_G_hasColoursOf_2, ws_G_hasColoursOf_3, ws_G_hasColoursOf_4, ws_G_hasColoursOf_7, ws_G_hasColoursOf_8, ws_G_hasColoursOf_9, ws_G_hasColoursOf_12, ws_G_hasColoursOf_15, ws_G_hasColoursOf_16, ws_G_hasColoursOf_17, ws_G_hasColoursOf_20, ws_G_hasColoursOf_23, ws_G_hasColoursOf_26, ws_G_hasColoursOf_27, ws_G_hasColoursOf_28, ws_G_hasColoursOf_31, ws_G_hasColoursOf_34, ws_G_hasColoursOf_35, i_4, nI_leI (show 4 < 2 ^ 31 by omega) (show 4 < 2 ^ 31 by omega), Nat.le_refl]
    exact hQ true ⟨fun _ => hi, fun _ => rfl⟩
  | succ k ih =>
    intro x hx hi
    have hlt : ¬ 4 ≤ x := by omega
    apply tm_run [2] 30
    simp only [tm_w_s, tm_w_0, tm_gI_0, tm_gI_s, tm_gA_0, tm_gA_s, tm_fv_0, tm_fv_s, tm_p1_e, tm_pA_e, tm_pJ_e, tm_pV_i, tm_pV_r, tm_cI_e, tm_cZ_e, tm_cJ_e, tm_cQ_e, tm_cO_e, tm_rq_e, List.set_cons_zero, List.set_cons_succ, List.contains_cons, List.contains_nil, Nat.reduceBEq, Bool.or_false, Bool.false_or, Bool.or_true, Bool.true_or, Bool.or_self, cond_true, cond_false, true_and, and_true, or_true, true_or, true_implies, false_implies, not_true_eq_false, not_false_eq_true, List.length_cons, List.length_nil, Option.toList_some, Option.toList_none, List.cons_append, List.nil_append, ws_G_hasColoursOf_0, ws_G_hasColoursOf_1, ws_G_hasColoursOf_2, ws_G_hasColoursOf_3, ws_G_hasColoursOf_4, ws_G_hasColoursOf_7, ws_G_hasColoursOf_8, ws_G_hasColoursOf_9, ws_G_hasColoursOf_12, ws_G_hasColoursOf_15, ws_G_hasColoursOf_16, ws_G_hasColoursOf_17, ws_G_hasColoursOf_20, ws_G_hasColoursOf_23, ws_G_hasColoursOf_26, ws_G_hasColoursOf_27, ws_G_hasColoursOf_28, ws_G_hasColoursOf_31, ws_G_hasColoursOf_34, ws_G_hasColoursOf_35, i_4, nI_leI (show 4 < 2 ^ 31 by omega) (show x < 2 ^ 31 by omega), hlt]
    refine kd_G_hasColoursOf_9 hp (Nat.le_of_ble_eq_true rfl) (Nat.le_refl _) (Nat.le_refl _) (c_G_coloured (by omega) hp ha hn hc) ?_
    apply tm_run [2] 30
    simp only [tm_w_s, tm_w_0, tm_gI_0, tm_gI_s, tm_gA_0, tm_gA_s, tm_fv_0, tm_fv_s, tm_p1_e, tm_pA_e, tm_pJ_e, tm_pV_i, tm_pV_r, tm_cI_e, tm_cZ_e, tm_cJ_e, tm_cQ_e, tm_cO_e, tm_rq_e, List.set_cons_zero, List.set_cons_succ, List.contains_cons, List.contains_nil, Nat.reduceBEq, Bool.or_false, Bool.false_or, Bool.or_true, Bool.true_or, Bool.or_self, cond_true, cond_false, true_and, and_true, or_true, true_or, true_implies, false_implies, not_true_eq_false, not_false_eq_true, List.length_cons, List.length_nil, Option.toList_some, Option.toList_none, List.cons_append, List.nil_append, ws_G_hasColoursOf_0, ws_G_hasColoursOf_1, ws_G_hasColoursOf_2, ws_G_hasColoursOf_3, ws_G_hasColoursOf_4, ws_G_hasColoursOf_7, ws_G_hasColoursOf_8, ws_G_hasColoursOf_9, ws_G_hasColoursOf_12, ws_G_hasColoursOf_15, ws_G_hasColoursOf_16, ws_G_hasColoursOf_17, ws_G_hasColoursOf_20, ws_G_hasColoursOf_23, ws_G_hasColoursOf_26, ws_G_hasColoursOf_27, ws_G_hasColoursOf_28, ws_G_hasColoursOf_31, ws_G_hasColoursOf_34, ws_G_hasColoursOf_35]
    refine kd_G_hasColoursOf_12 (Nat.le_of_ble_eq_true rfl) (Nat.le_refl _) (Nat.le_refl _) (c_I_bitCount (gMk_lt' hn)) ?_
    apply tm_run [2] 30
    simp only [tm_w_s, tm_w_0, tm_gI_0, tm_gI_s, tm_gA_0, tm_gA_s, tm_fv_0, tm_fv_s, tm_p1_e, tm_pA_e, tm_pJ_e, tm_pV_i, tm_pV_r, tm_cI_e, tm_cZ_e, tm_cJ_e, tm_cQ_e, tm_cO_e, tm_rq_e, List.set_cons_zero, List.set_cons_succ, List.contains_cons, List.contains_nil, Nat.reduceBEq, Bool.or_false, Bool.false_or, Bool.or_true, Bool.true_or, Bool.or_self, cond_true, cond_false, true_and, and_true, or_true, true_or, true_implies, false_implies, not_true_eq_false, not_false_eq_true, List.length_cons, List.length_nil, Option.toList_some, Option.toList_none, List.cons_append, List.nil_append, ws_G_hasColoursOf_0, ws_G_hasColoursOf_1, ws_G_hasColoursOf_2, ws_G_hasColoursOf_3, ws_G_hasColoursOf_4, ws_G_hasColoursOf_7, ws_G_hasColoursOf_8, ws_G_hasColoursOf_9, ws_G_hasColoursOf_12, ws_G_hasColoursOf_15, ws_G_hasColoursOf_16, ws_G_hasColoursOf_17, ws_G_hasColoursOf_20, ws_G_hasColoursOf_23, ws_G_hasColoursOf_26, ws_G_hasColoursOf_27, ws_G_hasColoursOf_28, ws_G_hasColoursOf_31, ws_G_hasColoursOf_34, ws_G_hasColoursOf_35]
    refine kd_G_hasColoursOf_17 hp' (Nat.le_of_ble_eq_true rfl) (Nat.le_refl _) (Nat.le_refl _) (c_G_coloured (by omega) hp' ha' hn' hc') ?_
    apply tm_run [2] 30
    simp only [tm_w_s, tm_w_0, tm_gI_0, tm_gI_s, tm_gA_0, tm_gA_s, tm_fv_0, tm_fv_s, tm_p1_e, tm_pA_e, tm_pJ_e, tm_pV_i, tm_pV_r, tm_cI_e, tm_cZ_e, tm_cJ_e, tm_cQ_e, tm_cO_e, tm_rq_e, List.set_cons_zero, List.set_cons_succ, List.contains_cons, List.contains_nil, Nat.reduceBEq, Bool.or_false, Bool.false_or, Bool.or_true, Bool.true_or, Bool.or_self, cond_true, cond_false, true_and, and_true, or_true, true_or, true_implies, false_implies, not_true_eq_false, not_false_eq_true, List.length_cons, List.length_nil, Option.toList_some, Option.toList_none, List.cons_append, List.nil_append, ws_G_hasColoursOf_0, ws_G_hasColoursOf_1, ws_G_hasColoursOf_2, ws_G_hasColoursOf_3, ws_G_hasColoursOf_4, ws_G_hasColoursOf_7, ws_G_hasColoursOf_8, ws_G_hasColoursOf_9, ws_G_hasColoursOf_12, ws_G_hasColoursOf_15, ws_G_hasColoursOf_16, ws_G_hasColoursOf_17, ws_G_hasColoursOf_20, ws_G_hasColoursOf_23, ws_G_hasColoursOf_26, ws_G_hasColoursOf_27, ws_G_hasColoursOf_28, ws_G_hasColoursOf_31, ws_G_hasColoursOf_34, ws_G_hasColoursOf_35]
    refine kd_G_hasColoursOf_20 (Nat.le_of_ble_eq_true rfl) (Nat.le_refl _) (Nat.le_refl _) (c_I_bitCount (gMk_lt' hn')) ?_
    apply tm_run [2] 30
    have l1 := gpc_le (gMk (fun i => cc i == x) n)
    have l2 := gpc_le (gMk (fun i => cc' i == x) n')
    simp only [tm_w_s, tm_w_0, tm_gI_0, tm_gI_s, tm_gA_0, tm_gA_s, tm_fv_0, tm_fv_s, tm_p1_e, tm_pA_e, tm_pJ_e, tm_pV_i, tm_pV_r, tm_cI_e, tm_cZ_e, tm_cJ_e, tm_cQ_e, tm_cO_e, tm_rq_e, List.set_cons_zero, List.set_cons_succ, List.contains_cons, List.contains_nil, Nat.reduceBEq, Bool.or_false, Bool.false_or, Bool.or_true, Bool.true_or, Bool.or_self, cond_true, cond_false, true_and, and_true, or_true, true_or, true_implies, false_implies, not_true_eq_false, not_false_eq_true, List.length_cons, List.length_nil, Option.toList_some, Option.toList_none, List.cons_append, List.nil_append, ws_G_hasColoursOf_0, ws_G_hasColoursOf_1, ws_G_hasColoursOf_2, ws_G_hasColoursOf_3, ws_G_hasColoursOf_4, ws_G_hasColoursOf_7, ws_G_hasColoursOf_8, ws_G_hasColoursOf_9, ws_G_hasColoursOf_12, ws_G_hasColoursOf_15, ws_G_hasColoursOf_16, ws_G_hasColoursOf_17, ws_G_hasColoursOf_20, ws_G_hasColoursOf_23, ws_G_hasColoursOf_26, ws_G_hasColoursOf_27, ws_G_hasColoursOf_28, ws_G_hasColoursOf_31, ws_G_hasColoursOf_34, ws_G_hasColoursOf_35, nI_eq (show gpc (gMk (fun i => cc i == x) n) < 2 ^ 31 by omega) (show gpc (gMk (fun i => cc' i == x) n') < 2 ^ 31 by omega), nI_1]
    refine ⟨fun e => ih (x + 1) (by omega) (fun y hy => ?_), fun e => hQ false ⟨(fun q => nomatch q), fun q => absurd (q x (by omega)) e⟩⟩
    by_cases ey : y = x
    · subst ey; exact e
    · exact hi y (by omega)
theorem c_G_hasColoursOf {p' a' b' n' : Nat} {c' : Nat → Int32} {cc' : Nat → Nat} (hp : h p = tm_o 1 [.int (nI n), .ref a, .ref b]) (ha : h a = tm_i 7 c) (hn : n ≤ 7) (hc : gC n c cc) (hp' : h p' = tm_o 1 [.int (nI n'), .ref a', .ref b']) (ha' : h a' = tm_i 7 c') (hn' : n' ≤ 7) (hc' : gC n' c' cc') :
    tm_C M_G_hasColoursOf 1 0 [.ref p, .ref p'] h (fun o k => (∃ r : Bool, (r = true ↔ ∀ x, x < 4 → gNc cc n x = gNc cc' n' x) ∧ o = .inl (some (.int (bI r)))) ∧ k = h) := by
  refine tm_C.by (L := [some (.ref p), some (.ref p'), none]) rfl rfl rfl rfl rfl ?_
  apply tm_run [2] 30
  simp only [tm_w_s, tm_w_0, tm_gI_0, tm_gI_s, tm_gA_0, tm_gA_s, tm_fv_0, tm_fv_s, tm_p1_e, tm_pA_e, tm_pJ_e, tm_pV_i, tm_pV_r, tm_cI_e, tm_cZ_e, tm_cJ_e, tm_cQ_e, tm_cO_e, tm_rq_e, List.set_cons_zero, List.set_cons_succ, List.contains_cons, List.contains_nil, Nat.reduceBEq, Bool.or_false, Bool.false_or, Bool.or_true, Bool.true_or, Bool.or_self, cond_true, cond_false, true_and, and_true, or_true, true_or, true_implies, false_implies, not_true_eq_false, not_false_eq_true, List.length_cons, List.length_nil, Option.toList_some, Option.toList_none, List.cons_append, List.nil_append, ws_G_hasColoursOf_0, ws_G_hasColoursOf_1, ws_G_hasColoursOf_2, ws_G_hasColoursOf_3, ws_G_hasColoursOf_4, ws_G_hasColoursOf_7, ws_G_hasColoursOf_8, ws_G_hasColoursOf_9, ws_G_hasColoursOf_12, ws_G_hasColoursOf_15, ws_G_hasColoursOf_16, ws_G_hasColoursOf_17, ws_G_hasColoursOf_20, ws_G_hasColoursOf_23, ws_G_hasColoursOf_26, ws_G_hasColoursOf_27, ws_G_hasColoursOf_28, ws_G_hasColoursOf_31, ws_G_hasColoursOf_34, ws_G_hasColoursOf_35]
  exact l_G_hasColoursOf hp ha hn hc hp' ha' hn' hc' (fun r hr => ⟨⟨r, hr, rfl⟩, rfl⟩) 4 0 (by omega) (fun y hy => absurd hy (Nat.not_lt_zero y))
end BE
