section BG
/-- an array whose first k places hold F -/
def gPr (F f : Nat → Int32) (k : Nat) : Nat → Int32 := fun i => if i < k then F i else f i
theorem gPr_0 (F f : Nat → Int32) : gPr F f 0 = f := by
  funext i
  simp [gPr]
theorem gPr_upd (F f : Nat → Int32) (k : Nat) : upd (gPr F f k) k (F k) = gPr F f (k + 1) := by
  funext i
  unfold upd gPr
  by_cases e : i = k
  · subst e
    simp
  · rw [if_neg e]
    by_cases e2 : i < k
    · rw [if_pos e2, if_pos (by omega)]
    · rw [if_neg e2, if_neg (by omega)]
theorem gPr_at {F f : Nat → Int32} {k i : Nat} (h : k ≤ i) : gPr F f k i = f i := if_neg (by omega)
theorem gPr_in {F f : Nat → Int32} {k i : Nat} (h : i < k) : gPr F f k i = F i := if_pos h
theorem upd_upd (f : Nat → Int32) (k : Nat) (x y : Int32) : upd (upd f k x) k y = upd f k y := by
  funext i
  unfold upd
  split <;> rfl
theorem upd_id {f : Nat → Int32} {k : Nat} {x : Int32} (h : f k = x) : upd f k x = f := by
  funext i
  unfold upd
  split
  · rename_i e; rw [e, h]
  · rfl
theorem tm_up_3 {h : tm_Hp} {a b : Nat} {e e' e'' : tm_Ce} (hab : a ≠ b) : tm_up (tm_up (tm_up h a e) b e') a e'' = tm_up (tm_up h a e'') b e' := by
  rw [tm_up_c (e := e) hab, tm_up_up, tm_up_c hab.symm]
variable {h : tm_Hp} {p a b n : Nat} {c f : Nat → Int32} {nb cc : Nat → Nat}
theorem l_G_flipAllEdges {Q : tm_O → tm_Hp → Prop} (hp : h p = tm_o 1 [.int (nI n), .ref a, .ref b]) (hb : h b = tm_i 7 f) (hn : n ≤ 7) (hf : gM n f nb) (hbK : b < tm_K) (hpb : p ≠ b) (hQ : Q (.inl none) (tm_up h b (tm_i 7 (gPr (fun i => nI (nb i ^^^ ((2 ^ n - 1) ^^^ 2 ^ i))) f n)))) :
    ∀ k v, v + k = n → tm_T M_G_flipAllEdges 1 0 Q 0 2 [some (.ref p), some (.int (nI v))] [] (tm_up h b (tm_i 7 (gPr (fun i => nI (nb i ^^^ ((2 ^ n - 1) ^^^ 2 ^ i))) f v))) := by
  intro k
  induction k with
  | zero =>
    intro v hv
    obtain rfl : v = n := by omega
    apply tm_run [2] 30
    simp only [↓reduceIte, tm_w_i, tm_w_0, Bool.false_eq_true, tm_gI_0, tm_gI_s, tm_gA_0, tm_gA_s, tm_fv_0, tm_fv_s, tm_p1_e, tm_pA_e, tm_pJ_e, tm_pV_i, tm_pV_r, tm_cI_e, tm_cZ_e, tm_cJ_e, tm_cQ_e, tm_cO_e, tm_rq_e, List.set_cons_zero, List.set_cons_succ, List.contains_cons, List.contains_nil, Nat.reduceBEq, Bool.or_false, Bool.false_or, Bool.or_true, Bool.true_or, Bool.or_self, cond_true, cond_false, true_and, and_true, or_true, true_or, true_implies, false_implies, not_true_eq_false, not_false_eq_true, List.length_cons, List.length_nil, Option.toList_some, Option.toList_none, List.cons_append, List.nil_append, ws_G_flipAllEdges_0, ws_G_flipAllEdges_1, ws_G_flipAllEdges_2, ws_G_flipAllEdges_3, ws_G_flipAllEdges_4, ws_G_flipAllEdges_7, ws_G_flipAllEdges_10, ws_G_flipAllEdges_11, ws_G_flipAllEdges_14, ws_G_flipAllEdges_15, ws_G_flipAllEdges_16, ws_G_flipAllEdges_17, ws_G_flipAllEdges_18, ws_G_flipAllEdges_21, ws_G_flipAllEdges_22, ws_G_flipAllEdges_23, ws_G_flipAllEdges_24, ws_G_flipAllEdges_25, ws_G_flipAllEdges_26, ws_G_flipAllEdges_27, ws_G_flipAllEdges_30, ws_G_flipAllEdges_33, hp, tm_up_n hpb, nI_leI (show v < 2 ^ 31 by omega) (show v < 2 ^ 31 by omega), Nat.le_refl]
    exact hQ
  | succ k ih =>
    intro v hv
    have hlt : ¬ n ≤ v := by omega
    obtain ⟨h1, h2⟩ := hf v (by omega)
    apply tm_run [2] 30
    simp only [↓reduceIte, tm_w_i, tm_w_0, Bool.false_eq_true, tm_gI_0, tm_gI_s, tm_gA_0, tm_gA_s, tm_fv_0, tm_fv_s, tm_p1_e, tm_pA_e, tm_pJ_e, tm_pV_i, tm_pV_r, tm_cI_e, tm_cZ_e, tm_cJ_e, tm_cQ_e, tm_cO_e, tm_rq_e, List.set_cons_zero, List.set_cons_succ, List.contains_cons, List.contains_nil, Nat.reduceBEq, Bool.or_false, Bool.false_or, Bool.or_true, Bool.true_or, Bool.or_self, cond_true, cond_false, true_and, and_true, or_true, true_or, true_implies, false_implies, not_true_eq_false, not_false_eq_true, List.length_cons, List.length_nil, Option.toList_some, Option.toList_none, List.cons_append, List.nil_append, ws_G_flipAllEdges_0, ws_G_flipAllEdges_1, ws_G_flipAllEdges_2, ws_G_flipAllEdges_3, ws_G_flipAllEdges_4, ws_G_flipAllEdges_7, ws_G_flipAllEdges_10, ws_G_flipAllEdges_11, ws_G_flipAllEdges_14, ws_G_flipAllEdges_15, ws_G_flipAllEdges_16, ws_G_flipAllEdges_17, ws_G_flipAllEdges_18, ws_G_flipAllEdges_21, ws_G_flipAllEdges_22, ws_G_flipAllEdges_23, ws_G_flipAllEdges_24, ws_G_flipAllEdges_25, ws_G_flipAllEdges_26, ws_G_flipAllEdges_27, ws_G_flipAllEdges_30, ws_G_flipAllEdges_33, hp, tm_up_n hpb, tm_up_s, nI_leI (show n < 2 ^ 31 by omega) (show v < 2 ^ 31 by omega), hlt, nI_cl (show v < 2560 by omega), gPr_at (Nat.le_refl v), h1]
    refine ⟨nI_in' (by omega) (by decide), ?_⟩
    refine kd_G_flipAllEdges_18 ((tm_up_n hpb).trans hp) (Nat.le_of_ble_eq_true rfl) (Nat.le_refl _) (Nat.le_refl _) (c_G_all (a := a) (b := b) ((tm_up_n hpb).trans hp) hn) ?_
    apply tm_run [2] 30
    simp only [↓reduceIte, tm_w_i, tm_w_0, Bool.false_eq_true, tm_gI_0, tm_gI_s, tm_gA_0, tm_gA_s, tm_fv_0, tm_fv_s, tm_p1_e, tm_pA_e, tm_pJ_e, tm_pV_i, tm_pV_r, tm_cI_e, tm_cZ_e, tm_cJ_e, tm_cQ_e, tm_cO_e, tm_rq_e, List.set_cons_zero, List.set_cons_succ, List.contains_cons, List.contains_nil, Nat.reduceBEq, Bool.or_false, Bool.false_or, Bool.or_true, Bool.true_or, Bool.or_self, cond_true, cond_false, true_and, and_true, or_true, true_or, true_implies, false_implies, not_true_eq_false, not_false_eq_true, List.length_cons, List.length_nil, Option.toList_some, Option.toList_none, List.cons_append, List.nil_append, ws_G_flipAllEdges_0, ws_G_flipAllEdges_1, ws_G_flipAllEdges_2, ws_G_flipAllEdges_3, ws_G_flipAllEdges_4, ws_G_flipAllEdges_7, ws_G_flipAllEdges_10, ws_G_flipAllEdges_11, ws_G_flipAllEdges_14, ws_G_flipAllEdges_15, ws_G_flipAllEdges_16, ws_G_flipAllEdges_17, ws_G_flipAllEdges_18, ws_G_flipAllEdges_21, ws_G_flipAllEdges_22, ws_G_flipAllEdges_23, ws_G_flipAllEdges_24, ws_G_flipAllEdges_25, ws_G_flipAllEdges_26, ws_G_flipAllEdges_27, ws_G_flipAllEdges_30, ws_G_flipAllEdges_33, tm_up_s, tm_up_up, hbK, nI_cl (show v < 2560 by omega), ix_1shl (show v < 31 by omega), ix_xor, nI_1]
    refine ⟨nI_in' (by omega) (by decide), ?_⟩
    have := ih (v + 1) (by omega)
    rw [← gPr_upd] at this
    exact this
theorem c_G_flipAllEdges (hp : h p = tm_o 1 [.int (nI n), .ref a, .ref b]) (hb : h b = tm_i 7 f) (hn : n ≤ 7) (hf : gM n f nb) (hbK : b < tm_K) (hpb : p ≠ b) :
    tm_C M_G_flipAllEdges 1 0 [.ref p] h (fun o k => o = .inl none ∧ k = tm_up h b (tm_i 7 (gPr (fun i => nI (nb i ^^^ ((2 ^ n - 1) ^^^ 2 ^ i))) f n))) := by
  refine tm_C.by (L := [some (.ref p), none]) rfl rfl rfl rfl rfl ?_
  apply tm_run [2] 30
  simp only [↓reduceIte, tm_w_i, tm_w_0, Bool.false_eq_true, tm_gI_0, tm_gI_s, tm_gA_0, tm_gA_s, tm_fv_0, tm_fv_s, tm_p1_e, tm_pA_e, tm_pJ_e, tm_pV_i, tm_pV_r, tm_cI_e, tm_cZ_e, tm_cJ_e, tm_cQ_e, tm_cO_e, tm_rq_e, List.set_cons_zero, List.set_cons_succ, List.contains_cons, List.contains_nil, Nat.reduceBEq, Bool.or_false, Bool.false_or, Bool.or_true, Bool.true_or, Bool.or_self, cond_true, cond_false, true_and, and_true, or_true, true_or, true_implies, false_implies, not_true_eq_false, not_false_eq_true, List.length_cons, List.length_nil, Option.toList_some, Option.toList_none, List.cons_append, List.nil_append, ws_G_flipAllEdges_0, ws_G_flipAllEdges_1, ws_G_flipAllEdges_2, ws_G_flipAllEdges_3, ws_G_flipAllEdges_4, ws_G_flipAllEdges_7, ws_G_flipAllEdges_10, ws_G_flipAllEdges_11, ws_G_flipAllEdges_14, ws_G_flipAllEdges_15, ws_G_flipAllEdges_16, ws_G_flipAllEdges_17, ws_G_flipAllEdges_18, ws_G_flipAllEdges_21, ws_G_flipAllEdges_22, ws_G_flipAllEdges_23, ws_G_flipAllEdges_24, ws_G_flipAllEdges_25, ws_G_flipAllEdges_26, ws_G_flipAllEdges_27, ws_G_flipAllEdges_30, ws_G_flipAllEdges_33]
  have := l_G_flipAllEdges (Q := fun o k => o = .inl none ∧ k = tm_up h b (tm_i 7 (gPr (fun i => nI (nb i ^^^ ((2 ^ n - 1) ^^^ 2 ^ i))) f n))) hp hb hn hf hbK hpb ⟨rfl, rfl⟩ n 0 (by omega)
  rw [gPr_0, tm_up_id hb] at this
  exact this
set_option maxRecDepth 20000 in
theorem l_G_become {Q : tm_O → tm_Hp → Prop} {p' a' b' : Nat} {c' f' : Nat → Int32} (hp : h p = tm_o 1 [.int (nI n), .ref a, .ref b]) (ha : h a = tm_i 7 c) (hb : h b = tm_i 7 f) (hp' : h p' = tm_o 1 [.int (nI n), .ref a', .ref b']) (ha' : h a' = tm_i 7 c') (hb' : h b' = tm_i 7 f') (hn : n ≤ 7) (haK : a < tm_K) (hbK : b < tm_K)
    (h1 : p ≠ a) (h2 : p ≠ b) (h3 : p' ≠ a) (h4 : p' ≠ b) (h5 : a ≠ b) (h6 : a' ≠ a) (h7 : a' ≠ b) (h8 : b' ≠ a) (h9 : b' ≠ b) (hQ : Q (.inl none) (tm_up (tm_up h a (tm_i 7 (gPr c' c n))) b (tm_i 7 (gPr f' f n)))) :
    ∀ k v, v + k = n → tm_T M_G_become 0 0 Q 0 10 [some (.ref p), some (.ref p'), some (.int (nI v))] [] (tm_up (tm_up h a (tm_i 7 (gPr c' c v))) b (tm_i 7 (gPr f' f v))) := by
  intro k
  induction k with
  | zero =>
    intro v hv
    obtain rfl : v = n := by omega
    apply tm_run [10] 30
    simp only [↓reduceIte, tm_w_i, tm_w_0, Bool.false_eq_true, tm_gI_0, tm_gI_s, tm_gA_0, tm_gA_s, tm_fv_0, tm_fv_s, tm_p1_e, tm_pA_e, tm_pJ_e, tm_pV_i, tm_pV_r, tm_cI_e, tm_cZ_e, tm_cJ_e, tm_cQ_e, tm_cO_e, tm_rq_e, List.set_cons_zero, List.set_cons_succ, List.contains_cons, List.contains_nil, Nat.reduceBEq, Bool.or_false, Bool.false_or, Bool.or_true, Bool.true_or, Bool.or_self, cond_true, cond_false, true_and, and_true, or_true, true_or, true_implies, false_implies, not_true_eq_false, not_false_eq_true, List.length_cons, List.length_nil, Option.toList_some, Option.toList_none, List.cons_append, List.nil_append, ws_G_become_0, ws_G_become_1, ws_G_become_2, ws_G_become_5, ws_G_become_8, ws_G_become_9, ws_G_become_10, ws_G_become_11, ws_G_become_12, ws_G_become_15, ws_G_become_18, ws_G_become_19, ws_G_become_22, ws_G_become_23, ws_G_become_24, ws_G_become_27, ws_G_become_28, ws_G_become_29, ws_G_become_30, ws_G_become_31, ws_G_become_34, ws_G_become_35, ws_G_become_36, ws_G_become_39, ws_G_become_40, ws_G_become_41, ws_G_become_42, ws_G_become_45, ws_G_become_48, hp, tm_up_n h1, tm_up_n h2, nI_leI (show v < 2 ^ 31 by omega) (show v < 2 ^ 31 by omega), Nat.le_refl]
    exact hQ
  | succ k ih =>
    intro v hv
    have hlt : ¬ n ≤ v := by omega
    apply tm_run [10] 40
    simp only [↓reduceIte, tm_w_i, tm_w_0, Bool.false_eq_true, tm_gI_0, tm_gI_s, tm_gA_0, tm_gA_s, tm_fv_0, tm_fv_s, tm_p1_e, tm_pA_e, tm_pJ_e, tm_pV_i, tm_pV_r, tm_cI_e, tm_cZ_e, tm_cJ_e, tm_cQ_e, tm_cO_e, tm_rq_e, List.set_cons_zero, List.set_cons_succ, List.contains_cons, List.contains_nil, Nat.reduceBEq, Bool.or_false, Bool.false_or, Bool.or_true, Bool.true_or, Bool.or_self, cond_true, cond_false, true_and, and_true, or_true, true_or, true_implies, false_implies, not_true_eq_false, not_false_eq_true, List.length_cons, List.length_nil, Option.toList_some, Option.toList_none, List.cons_append, List.nil_append, ws_G_become_0, ws_G_become_1, ws_G_become_2, ws_G_become_5, ws_G_become_8, ws_G_become_9, ws_G_become_10, ws_G_become_11, ws_G_become_12, ws_G_become_15, ws_G_become_18, ws_G_become_19, ws_G_become_22, ws_G_become_23, ws_G_become_24, ws_G_become_27, ws_G_become_28, ws_G_become_29, ws_G_become_30, ws_G_become_31, ws_G_become_34, ws_G_become_35, ws_G_become_36, ws_G_become_39, ws_G_become_40, ws_G_become_41, ws_G_become_42, ws_G_become_45, ws_G_become_48, hp, hp', ha', hb', tm_up_n h1, tm_up_n h2, tm_up_n h3, tm_up_n h4, tm_up_n h5, tm_up_n h5.symm, tm_up_n h6, tm_up_n h7, tm_up_n h8, tm_up_n h9, tm_up_s, nI_leI (show n < 2 ^ 31 by omega) (show v < 2 ^ 31 by omega), hlt, nI_cl (show v < 2560 by omega), haK, hbK, nI_1, tm_up_3 h5, tm_up_up]
    have hi : vp_in (nI v) 7 := nI_in' (by omega) (by decide)
    refine ⟨hi, hi, hi, hi, ?_⟩
    have := ih (v + 1) (by omega)
    rw [← gPr_upd, ← gPr_upd] at this
    exact this
theorem c_G_become {p' a' b' n' : Nat} {c' f' : Nat → Int32} (hp : h p = tm_o 1 [.int (nI n'), .ref a, .ref b]) (ha : h a = tm_i 7 c) (hb : h b = tm_i 7 f) (hp' : h p' = tm_o 1 [.int (nI n), .ref a', .ref b']) (ha' : h a' = tm_i 7 c') (hb' : h b' = tm_i 7 f') (hn : n ≤ 7) (haK : a < tm_K) (hbK : b < tm_K)
    (h0 : p ≠ p') (h1 : p ≠ a) (h2 : p ≠ b) (h3 : p' ≠ a) (h4 : p' ≠ b) (h5 : a ≠ b) (h6 : a' ≠ a) (h7 : a' ≠ b) (h8 : b' ≠ a) (h9 : b' ≠ b) (h10 : a' ≠ p) (h11 : b' ≠ p) :
    tm_C M_G_become 0 0 [.ref p, .ref p'] h (fun o k => o = .inl none ∧ k = tm_up (tm_up (tm_up h p (tm_o 1 [.int (nI n), .ref a, .ref b])) a (tm_i 7 (gPr c' c n))) b (tm_i 7 (gPr f' f n))) := by
  refine tm_C.by (L := [some (.ref p), some (.ref p'), none]) rfl rfl rfl rfl rfl ?_
  apply tm_run [10] 30
  simp only [↓reduceIte, tm_w_i, tm_w_0, Bool.false_eq_true, tm_gI_0, tm_gI_s, tm_gA_0, tm_gA_s, tm_fv_0, tm_fv_s, tm_p1_e, tm_pA_e, tm_pJ_e, tm_pV_i, tm_pV_r, tm_cI_e, tm_cZ_e, tm_cJ_e, tm_cQ_e, tm_cO_e, tm_rq_e, List.set_cons_zero, List.set_cons_succ, List.contains_cons, List.contains_nil, Nat.reduceBEq, Bool.or_false, Bool.false_or, Bool.or_true, Bool.true_or, Bool.or_self, cond_true, cond_false, true_and, and_true, or_true, true_or, true_implies, false_implies, not_true_eq_false, not_false_eq_true, List.length_cons, List.length_nil, Option.toList_some, Option.toList_none, List.cons_append, List.nil_append, ws_G_become_0, ws_G_become_1, ws_G_become_2, ws_G_become_5, ws_G_become_8, ws_G_become_9, ws_G_become_10, ws_G_become_11, ws_G_become_12, ws_G_become_15, ws_G_become_18, ws_G_become_19, ws_G_become_22, ws_G_become_23, ws_G_become_24, ws_G_become_27, ws_G_become_28, ws_G_become_29, ws_G_become_30, ws_G_become_31, ws_G_become_34, ws_G_become_35, ws_G_become_36, ws_G_become_39, ws_G_become_40, ws_G_become_41, ws_G_become_42, ws_G_become_45, ws_G_become_48, hp, hp']
  refine ⟨by decide, ?_⟩
  have := l_G_become (h := tm_up h p (tm_o 1 [.int (nI n), .ref a, .ref b])) (Q := fun o k => o = .inl none ∧ k = tm_up (tm_up (tm_up h p (tm_o 1 [.int (nI n), .ref a, .ref b])) a (tm_i 7 (gPr c' c n))) b (tm_i 7 (gPr f' f n))) (p := p) (p' := p') (tm_up_s _ _ _) ((tm_up_n h1.symm).trans ha) ((tm_up_n h2.symm).trans hb) ((tm_up_n h0.symm).trans hp') ((tm_up_n h10).trans ha') ((tm_up_n h11).trans hb') hn haK hbK h1 h2 h3 h4 h5 h6 h7 h8 h9 ⟨rfl, rfl⟩ n 0 (by omega)
  rw [gPr_0, gPr_0, tm_up_id (h := tm_up h p (tm_o 1 [.int (nI n), .ref a, .ref b])) ((tm_up_n h1.symm).trans ha), tm_up_id ((tm_up_n h2.symm).trans hb)] at this
  exact this
set_option maxRecDepth 20000 in
/-- a graph becomes itself -/
theorem c_G_become_self (hp : h p = tm_o 1 [.int (nI n), .ref a, .ref b]) (ha : h a = tm_i 7 c) (hb : h b = tm_i 7 f) (hn : n ≤ 7) (haK : a < tm_K) (hbK : b < tm_K) :
    tm_C M_G_become 0 0 [.ref p, .ref p] h (fun o k => o = .inl none ∧ k = h) := by
  refine tm_C.by (L := [some (.ref p), some (.ref p), none]) rfl rfl rfl rfl rfl ?_
  apply tm_run [10] 30
  simp only [↓reduceIte, tm_w_i, tm_w_0, Bool.false_eq_true, tm_gI_0, tm_gI_s, tm_gA_0, tm_gA_s, tm_fv_0, tm_fv_s, tm_p1_e, tm_pA_e, tm_pJ_e, tm_pV_i, tm_pV_r, tm_cI_e, tm_cZ_e, tm_cJ_e, tm_cQ_e, tm_cO_e, tm_rq_e, List.set_cons_zero, List.set_cons_succ, List.contains_cons, List.contains_nil, Nat.reduceBEq, Bool.or_false, Bool.false_or, Bool.or_true, Bool.true_or, Bool.or_self, cond_true, cond_false, true_and, and_true, or_true, true_or, true_implies, false_implies, not_true_eq_false, not_false_eq_true, List.length_cons, List.length_nil, Option.toList_some, Option.toList_none, List.cons_append, List.nil_append, ws_G_become_0, ws_G_become_1, ws_G_become_2, ws_G_become_5, ws_G_become_8, ws_G_become_9, ws_G_become_10, ws_G_become_11, ws_G_become_12, ws_G_become_15, ws_G_become_18, ws_G_become_19, ws_G_become_22, ws_G_become_23, ws_G_become_24, ws_G_become_27, ws_G_become_28, ws_G_become_29, ws_G_become_30, ws_G_become_31, ws_G_become_34, ws_G_become_35, ws_G_become_36, ws_G_become_39, ws_G_become_40, ws_G_become_41, ws_G_become_42, ws_G_become_45, ws_G_become_48, hp]
  refine ⟨by decide, ?_⟩
  have key : ∀ k v, v + k = n → tm_T M_G_become 0 0 (fun o k => o = .inl none ∧ k = h) 0 10 [some (.ref p), some (.ref p), some (.int (nI v))] [] h := by
    intro k
    induction k with
    | zero =>
      intro v hv
      obtain rfl : v = n := by omega
      apply tm_run [10] 30
      simp only [↓reduceIte, tm_w_i, tm_w_0, Bool.false_eq_true, tm_gI_0, tm_gI_s, tm_gA_0, tm_gA_s, tm_fv_0, tm_fv_s, tm_p1_e, tm_pA_e, tm_pJ_e, tm_pV_i, tm_pV_r, tm_cI_e, tm_cZ_e, tm_cJ_e, tm_cQ_e, tm_cO_e, tm_rq_e, List.set_cons_zero, List.set_cons_succ, List.contains_cons, List.contains_nil, Nat.reduceBEq, Bool.or_false, Bool.false_or, Bool.or_true, Bool.true_or, Bool.or_self, cond_true, cond_false, true_and, and_true, or_true, true_or, true_implies, false_implies, not_true_eq_false, not_false_eq_true, List.length_cons, List.length_nil, Option.toList_some, Option.toList_none, List.cons_append, List.nil_append, ws_G_become_0, ws_G_become_1, ws_G_become_2, ws_G_become_5, ws_G_become_8, ws_G_become_9, ws_G_become_10, ws_G_become_11, ws_G_become_12, ws_G_become_15, ws_G_become_18, ws_G_become_19, ws_G_become_22, ws_G_become_23, ws_G_become_24, ws_G_become_27, ws_G_become_28, ws_G_become_29, ws_G_become_30, ws_G_become_31, ws_G_become_34, ws_G_become_35, ws_G_become_36, ws_G_become_39, ws_G_become_40, ws_G_become_41, ws_G_become_42, ws_G_become_45, ws_G_become_48, hp, nI_leI (show v < 2 ^ 31 by omega) (show v < 2 ^ 31 by omega), Nat.le_refl]
    | succ k ih =>
      intro v hv
      have hlt : ¬ n ≤ v := by omega
      apply tm_run [10] 40
      simp only [↓reduceIte, tm_w_i, tm_w_0, Bool.false_eq_true, tm_gI_0, tm_gI_s, tm_gA_0, tm_gA_s, tm_fv_0, tm_fv_s, tm_p1_e, tm_pA_e, tm_pJ_e, tm_pV_i, tm_pV_r, tm_cI_e, tm_cZ_e, tm_cJ_e, tm_cQ_e, tm_cO_e, tm_rq_e, List.set_cons_zero, List.set_cons_succ, List.contains_cons, List.contains_nil, Nat.reduceBEq, Bool.or_false, Bool.false_or, Bool.or_true, Bool.true_or, Bool.or_self, cond_true, cond_false, true_and, and_true, or_true, true_or, true_implies, false_implies, not_true_eq_false, not_false_eq_true, List.length_cons, List.length_nil, Option.toList_some, Option.toList_none, List.cons_append, List.nil_append, ws_G_become_0, ws_G_become_1, ws_G_become_2, ws_G_become_5, ws_G_become_8, ws_G_become_9, ws_G_become_10, ws_G_become_11, ws_G_become_12, ws_G_become_15, ws_G_become_18, ws_G_become_19, ws_G_become_22, ws_G_become_23, ws_G_become_24, ws_G_become_27, ws_G_become_28, ws_G_become_29, ws_G_become_30, ws_G_become_31, ws_G_become_34, ws_G_become_35, ws_G_become_36, ws_G_become_39, ws_G_become_40, ws_G_become_41, ws_G_become_42, ws_G_become_45, ws_G_become_48, hp, ha, hb, nI_leI (show n < 2 ^ 31 by omega) (show v < 2 ^ 31 by omega), hlt, nI_cl (show v < 2560 by omega), haK, hbK, nI_1, upd_id (f := c) (k := v) rfl, upd_id (f := f) (k := v) rfl, tm_up_id ha, tm_up_id hb]
      have hi : vp_in (nI v) 7 := nI_in' (by omega) (by decide)
      exact ⟨hi, hi, hi, hi, ih (v + 1) (by omega)⟩
  have e : tm_up h p (tm_o 1 ([Value.int (nI n), .ref a, .ref b].set 0 (.int (nI n)))) = h := tm_up_id hp
  have := key n 0 (by omega)
  first | exact this | (rw [tm_up_id hp]; exact this)
end BG
