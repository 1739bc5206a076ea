section DC
variable {u0 N : Nat} {xs : Nat → Int32} {Q : tm_O → tm_Hp → Prop}
set_option maxRecDepth 20000 in
theorem l_law (hN : N ≤ 2560) (hu0 : N ≤ u0) (hQ : ∀ h, Q (.inl (some (.int 1))) h) : ∀ (m i u : Nat) (S : gSt) (t : Int32) (h : tm_Hp) (f : Nat → Int64) (x5 x6 : Option Value), N ≤ i + m → i ≤ N → u ≤ i → gX S h → gYq S t h → h 38 = tm_j 1 f → h 39 = tm_i N xs →
    tm_T M_L_law 24 u0 Q u 23 [some (.ref 39), some (.ref 0), some (.ref 27), some (.ref 38), some (.int (nI i)), x5, x6] [] h := by
  have exit : ∀ (i u : Nat) (h : tm_Hp) (x5 x6 : Option Value), i ≤ N → ¬ i + 5 ≤ N → h 39 = tm_i N xs → tm_T M_L_law 24 u0 Q u 23 [some (.ref 39), some (.ref 0), some (.ref 27), some (.ref 38), some (.int (nI i)), x5, x6] [] h := by
    intro i u h x5 x6 hi hlt hs
    have hgt : nI N - 5 < nI i := by
      rcases Nat.lt_or_ge N 5 with q | q
      · have h1 : nI N - nI 5 < 0 := pk_sneg (by decide) q
        exact Int32.lt_of_lt_of_le h1 (nI_pos' (by omega))
      · have h1 : nI N - nI 5 = nI (N - 5) := pk_sub q
        show nI N - nI 5 < nI i
        rw [h1, nI_ltI (by omega) (by omega)]
        omega
    apply tm_run [39] 80
    simp (disch := first | assumption | omega) only [↓reduceIte, tm_w_i, tm_w_0, Bool.false_eq_true, tm_gI_0, tm_gI_s, tm_gA_0, tm_gA_s, tm_fv_0, tm_fv_s, tm_p1_e, tm_pA_e, tm_pJ_e, tm_pV_i, tm_pV_r, tm_cI_e, tm_cZ_e, tm_cJ_e, tm_cQ_e, tm_cO_e, tm_rq_e, List.set_cons_zero, List.set_cons_succ, List.contains_cons, List.contains_nil, Nat.reduceBEq, Bool.or_false, Bool.false_or, Bool.or_true, Bool.true_or, Bool.or_self, cond_true, cond_false, true_and, and_true, or_true, true_or, true_implies, false_implies, not_true_eq_false, not_false_eq_true, List.length_cons, List.length_nil, Option.toList_some, Option.toList_none, List.cons_append, List.nil_append, ws_L_law_23, ws_L_law_25, ws_L_law_26, ws_L_law_27, ws_L_law_28, ws_L_law_29, ws_L_law_32, ws_L_law_33, ws_L_law_35, tm_up_s, tm_up_n, tm_up_up, nI_leI, nI_ltI, nI_eq, nI_cl, nI_in', ix_1shl, ix_or, ix_xor, nI_1, bI_0, bI_1, bI_F, pk_us, pk_un, hs, hgt, ws_L_law_1560, ws_L_law_1561]
    exact hQ h
  intro m
  induction m with
  | zero =>
    intro i u S t h f x5 x6 hm hi hu hX hY ho hs
    exact exit i u h x5 x6 hi (by omega) hs
  | succ m ih =>
    intro i u S t h f x5 x6 hm hi hu hX hY ho hs
    by_cases hle : i + 5 ≤ N
    · have hng : ¬ nI N - 5 < nI i := by
        have h1 : nI N - nI 5 = nI (N - 5) := pk_sub (by omega)
        show ¬ nI N - nI 5 < nI i
        rw [h1, nI_ltI (by omega) (by omega)]
        omega
      have n0 : vp_in (nI i) N := vp_in_nI (by omega) (by omega)
      have cont : ∀ (u' : Nat), u' ≤ i + 5 → ∀ (S : gSt) (t : Int32) (h : tm_Hp) (f : Nat → Int64) (x5 x6 : Option Value), gX S h → gYq S t h → h 38 = tm_j 1 f → h 39 = tm_i N xs → tm_T M_L_law 24 u0 Q u' 1554 [some (.ref 39), some (.ref 0), some (.ref 27), some (.ref 38), some (.int (nI i)), x5, x6] [] h := by
        intro u' hu' S t h f x5 x6 hX hY ho hs
        have := ih (i + 5) u' S t h f x5 x6 (by omega) hle hu' hX hY ho hs
        apply tm_run [23] 80
        simp (disch := first | assumption | omega) only [↓reduceIte, tm_w_i, tm_w_0, Bool.false_eq_true, tm_gI_0, tm_gI_s, tm_gA_0, tm_gA_s, tm_fv_0, tm_fv_s, tm_p1_e, tm_pA_e, tm_pJ_e, tm_pV_i, tm_pV_r, tm_cI_e, tm_cZ_e, tm_cJ_e, tm_cQ_e, tm_cO_e, tm_rq_e, List.set_cons_zero, List.set_cons_succ, List.contains_cons, List.contains_nil, Nat.reduceBEq, Bool.or_false, Bool.false_or, Bool.or_true, Bool.true_or, Bool.or_self, cond_true, cond_false, true_and, and_true, or_true, true_or, true_implies, false_implies, not_true_eq_false, not_false_eq_true, List.length_cons, List.length_nil, Option.toList_some, Option.toList_none, List.cons_append, List.nil_append, ws_L_law_1554, ws_L_law_1557, tm_up_s, tm_up_n, tm_up_up, nI_leI, nI_ltI, nI_eq, nI_cl, nI_in', ix_1shl, ix_or, ix_xor, nI_1, bI_0, bI_1, bI_F, pk_us, pk_un, i_5, nI_add]
        exact this
      have c5 := cont (u + 5) (by omega)
      have hu5 : u + 5 ≤ u0 := by omega
      have hand : ∃ k, k < 32 ∧ xs i &&& 31 = nI k := ⟨_, Nat.mod_lt _ (by decide), pk_and (xs i) 5 (by decide)⟩
      obtain ⟨k, hk, ek⟩ := hand
      apply tm_run [39] 80
      simp (disch := first | assumption | omega) only [↓reduceIte, tm_w_i, tm_w_0, Bool.false_eq_true, tm_gI_0, tm_gI_s, tm_gA_0, tm_gA_s, tm_fv_0, tm_fv_s, tm_p1_e, tm_pA_e, tm_pJ_e, tm_pV_i, tm_pV_r, tm_cI_e, tm_cZ_e, tm_cJ_e, tm_cQ_e, tm_cO_e, tm_rq_e, List.set_cons_zero, List.set_cons_succ, List.contains_cons, List.contains_nil, Nat.reduceBEq, Bool.or_false, Bool.false_or, Bool.or_true, Bool.true_or, Bool.or_self, cond_true, cond_false, true_and, and_true, or_true, true_or, true_implies, false_implies, not_true_eq_false, not_false_eq_true, List.length_cons, List.length_nil, Option.toList_some, Option.toList_none, List.cons_append, List.nil_append, ws_L_law_23, ws_L_law_25, ws_L_law_26, ws_L_law_27, ws_L_law_28, ws_L_law_29, ws_L_law_32, ws_L_law_33, ws_L_law_35, ws_L_law_36, ws_L_law_38, ws_L_law_39, tm_up_s, tm_up_n, tm_up_up, nI_leI, nI_ltI, nI_eq, nI_cl, nI_in', ix_1shl, ix_or, ix_xor, nI_1, bI_0, bI_1, bI_F, pk_us, pk_un, hs, hng, n0, ek]
      have hti : (nI k).toInt = (k : Int) := nI_toInt (by omega)
      refine tm_tsw dd_L_law_39 (by decide) ?_ ?_ ?_
      · intro off h1 h2 h3
        rw [hti] at h1 h2 h3
        have h4 : ((k : Int) - 0).toNat = k := by omega
        rw [h4] at h3
        have hk20 : k ≤ 20 := by omega
        have cs : k = 0 ∨ k = 1 ∨ k = 2 ∨ k = 3 ∨ k = 4 ∨ k = 5 ∨ k = 6 ∨ k = 7 ∨ k = 8 ∨ k = 9 ∨ k = 10 ∨ k = 11 ∨ k = 12 ∨ k = 13 ∨ k = 14 ∨ k = 15 ∨ k = 16 ∨ k = 17 ∨ k = 18 ∨ k = 19 ∨ k = 20 := by omega
        rcases cs with rfl | rfl | rfl | rfl | rfl | rfl | rfl | rfl | rfl | rfl | rfl | rfl | rfl | rfl | rfl | rfl | rfl | rfl | rfl | rfl | rfl
        · cases h3; exact ⟨by decide, s_vertex hX hY ho hs hle hN hu5 c5⟩
        · cases h3; exact ⟨by decide, s_paint hX hY ho hs hle hN hu5 c5⟩
        · cases h3; exact ⟨by decide, s_join hX hY ho hs hle hN hu5 c5⟩
        · cases h3; exact ⟨by decide, s_part hX hY ho hs hle hN hu5 c5⟩
        · cases h3; exact ⟨by decide, s_clear hX hY ho hs hle hN hu5 c5⟩
        · cases h3; exact ⟨by decide, s_copy hX hY ho hs hle hN hu5 c5⟩
        · cases h3; exact ⟨by decide, s_turn hX hY ho hs hle hN hu5 c5⟩
        · cases h3; exact ⟨by decide, s_settle hX hY ho hs hle hN hu5 c5⟩
        · cases h3; exact ⟨by decide, s_size hX hY ho hs hle hN hu5 c5⟩
        · cases h3; exact ⟨by decide, s_beside hX hY ho hs hle hN hu5 c5⟩
        · cases h3; exact ⟨by decide, s_name hX hY ho hs hle hN hu5 c5⟩
        · cases h3; exact ⟨by decide, s_place hX hY ho hs hle hN hu5 c5⟩
        · cases h3; exact ⟨by decide, s_automorphisms hX hY ho hs hle hN hu5 c5⟩
        · cases h3; exact ⟨by decide, s_fixing hX hY ho hs hle hN hu5 c5⟩
        · cases h3; exact ⟨by decide, s_orbit hX hY ho hs hle hN hu5 c5⟩
        · cases h3; exact ⟨by decide, s_orbits hX hY ho hs hle hN hu5 c5⟩
        · cases h3; exact ⟨by decide, s_cell hX hY ho hs hle hN hu5 c5⟩
        · cases h3; exact ⟨by decide, s_cells hX hY ho hs hle hN hu5 c5⟩
        · cases h3; exact ⟨by decide, s_same hX hY ho hs hle hN hu5 c5⟩
        · cases h3; exact ⟨by decide, s_match hX hY ho hs hle hN hu5 c5⟩
        · cases h3; exact ⟨by decide, s_moves hX hY ho hs hle hN hu5 c5⟩
      · intro h1 h2
        rw [hti] at h1 h2 ⊢
        have h4 : ((k : Int) - 0).toNat = k := by omega
        rw [h4]
        exact ⟨_, Array.getElem?_eq_getElem (show k < 21 by omega)⟩
      · intro _
        exact cont u (by omega) S t h f x5 x6 hX hY ho hs
    · exact exit i u h x5 x6 hi hle hs
end DC
