section CE
/-- a row of the first n numbers, the rest in their places, in an array -/
def gRw (n : Nat) (r : Nat → Nat) (f : Nat → Int32) : Prop := gp_pm n r ∧ (∀ i, i < 7 → f i = nI (r i)) ∧ ∀ i, n ≤ i → i < 7 → r i = i
theorem gRw_lt {n : Nat} {r : Nat → Nat} {f : Nat → Int32} (h : gRw n r f) (hn : n ≤ 7) {i : Nat} (hi : i < 7) : r i < 7 := by
  by_cases q : i < n
  · have := h.1.1 i q; omega
  · rw [h.2.2 i (by omega) hi]; exact hi
variable {S : gSt} {h : tm_Hp} {t l ol : Int32} {f : Nat → Int32}
set_option maxRecDepth 20000 in
theorem c_R_begin (h0 : h 27 = tm_o 5 [.int t, .ref 28, .ref 29, .ref 30, .ref 31, .ref 32, .int l, .ref 33, .int ol, .ref 34, .ref 35, .ref 36, .ref 37]) (hr : h 31 = tm_i 7 f) : tm_C M_R_begin 0 0 [.ref 27] h (fun z k => z = .inl none ∧ k = tm_up h 31 (tm_i 7 (gPr nI f 7))) := by
  refine tm_C.by (L := [some (.ref 27), none]) rfl rfl rfl rfl rfl ?_
  apply tm_run [2] 80
  simp (disch := first | assumption | omega) only [↓reduceIte, tm_w_i, tm_w_0, Bool.false_eq_true, tm_gI_0, tm_gI_s, tm_gA_0, tm_gA_s, tm_fv_0, tm_fv_s, tm_p1_e, tm_pA_e, tm_pJ_e, tm_pV_i, tm_pV_r, tm_cI_e, tm_cZ_e, tm_cJ_e, tm_cQ_e, tm_cO_e, tm_rq_e, List.set_cons_zero, List.set_cons_succ, List.contains_cons, List.contains_nil, Nat.reduceBEq, Bool.or_false, Bool.false_or, Bool.or_true, Bool.true_or, Bool.or_self, cond_true, cond_false, true_and, and_true, or_true, true_or, true_implies, false_implies, not_true_eq_false, not_false_eq_true, List.length_cons, List.length_nil, Option.toList_some, Option.toList_none, List.cons_append, List.nil_append, ws_R_begin_0, ws_R_begin_1, ws_R_begin_2, ws_R_begin_3, ws_R_begin_5, ws_R_begin_8, ws_R_begin_9, ws_R_begin_12, ws_R_begin_13, ws_R_begin_14, ws_R_begin_15, ws_R_begin_18, ws_R_begin_21, tm_up_s, tm_up_n, tm_up_up, nI_leI, nI_ltI, nI_eq, nI_cl, nI_in', ix_1shl, ix_or, ix_xor, nI_1, bI_0, bI_1, bI_F, pk_us, pk_un]
  have hK : 31 < tm_K := by decide
  have key : ∀ m k, k + m = 7 → tm_T M_R_begin 0 0 (fun z k => z = .inl none ∧ k = tm_up h 31 (tm_i 7 (gPr nI f 7))) 0 2 [some (.ref 27), some (.int (nI k))] [] (tm_up h 31 (tm_i 7 (gPr nI f k))) := by
    intro m
    induction m with
    | zero =>
      intro k hk
      obtain rfl : k = 7 := by omega
      apply tm_run [2] 80
      simp (disch := first | assumption | omega) only [↓reduceIte, tm_w_i, tm_w_0, Bool.false_eq_true, tm_gI_0, tm_gI_s, tm_gA_0, tm_gA_s, tm_fv_0, tm_fv_s, tm_p1_e, tm_pA_e, tm_pJ_e, tm_pV_i, tm_pV_r, tm_cI_e, tm_cZ_e, tm_cJ_e, tm_cQ_e, tm_cO_e, tm_rq_e, List.set_cons_zero, List.set_cons_succ, List.contains_cons, List.contains_nil, Nat.reduceBEq, Bool.or_false, Bool.false_or, Bool.or_true, Bool.true_or, Bool.or_self, cond_true, cond_false, true_and, and_true, or_true, true_or, true_implies, false_implies, not_true_eq_false, not_false_eq_true, List.length_cons, List.length_nil, Option.toList_some, Option.toList_none, List.cons_append, List.nil_append, ws_R_begin_0, ws_R_begin_1, ws_R_begin_2, ws_R_begin_3, ws_R_begin_5, ws_R_begin_8, ws_R_begin_9, ws_R_begin_12, ws_R_begin_13, ws_R_begin_14, ws_R_begin_15, ws_R_begin_18, ws_R_begin_21, tm_up_s, tm_up_n, tm_up_up, nI_leI, nI_ltI, nI_eq, nI_cl, nI_in', ix_1shl, ix_or, ix_xor, nI_1, bI_0, bI_1, bI_F, pk_us, pk_un, i_7, Nat.le_refl]
    | succ m ih =>
      intro k hk
      have hlt : ¬ 7 ≤ k := by omega
      have := ih (k + 1) (by omega)
      rw [← gPr_upd nI f k] at this
      apply tm_run [2] 80
      simp (disch := first | assumption | omega) only [↓reduceIte, tm_w_i, tm_w_0, Bool.false_eq_true, tm_gI_0, tm_gI_s, tm_gA_0, tm_gA_s, tm_fv_0, tm_fv_s, tm_p1_e, tm_pA_e, tm_pJ_e, tm_pV_i, tm_pV_r, tm_cI_e, tm_cZ_e, tm_cJ_e, tm_cQ_e, tm_cO_e, tm_rq_e, List.set_cons_zero, List.set_cons_succ, List.contains_cons, List.contains_nil, Nat.reduceBEq, Bool.or_false, Bool.false_or, Bool.or_true, Bool.true_or, Bool.or_self, cond_true, cond_false, true_and, and_true, or_true, true_or, true_implies, false_implies, not_true_eq_false, not_false_eq_true, List.length_cons, List.length_nil, Option.toList_some, Option.toList_none, List.cons_append, List.nil_append, ws_R_begin_0, ws_R_begin_1, ws_R_begin_2, ws_R_begin_3, ws_R_begin_5, ws_R_begin_8, ws_R_begin_9, ws_R_begin_12, ws_R_begin_13, ws_R_begin_14, ws_R_begin_15, ws_R_begin_18, ws_R_begin_21, tm_up_s, tm_up_n, tm_up_up, nI_leI, nI_ltI, nI_eq, nI_cl, nI_in', ix_1shl, ix_or, ix_xor, nI_1, bI_0, bI_1, bI_F, pk_us, pk_un, i_7, hlt, h0, hK]
      exact this
  have := key 7 0 (by omega)
  rw [gPr_0, tm_up_id hr] at this
  exact this
theorem gRw_id {n : Nat} : gRw n (fun i => i) (gPr nI f 7) := ⟨gp_id n, fun i hi => gPr_in hi, fun _ _ _ => rfl⟩
set_option maxRecDepth 20000 in
theorem c_R_change {i j : Nat} (h0 : h 27 = tm_o 5 [.int t, .ref 28, .ref 29, .ref 30, .ref 31, .ref 32, .int l, .ref 33, .int ol, .ref 34, .ref 35, .ref 36, .ref 37]) (hr : h 31 = tm_i 7 f) (hi : i < 7) (hj : j < 7) : tm_C M_R_change 0 0 [.ref 27, .int (nI i), .int (nI j)] h (fun z k => z = .inl none ∧ k = tm_up h 31 (tm_i 7 (upd (upd f i (f j)) j (f i)))) := by
  refine tm_C.by (L := [some (.ref 27), some (.int (nI i)), some (.int (nI j)), none]) rfl rfl rfl rfl rfl ?_
  have hK : 31 < tm_K := by decide
  apply tm_run [] 80
  simp (disch := first | assumption | omega) only [↓reduceIte, tm_w_i, tm_w_0, Bool.false_eq_true, tm_gI_0, tm_gI_s, tm_gA_0, tm_gA_s, tm_fv_0, tm_fv_s, tm_p1_e, tm_pA_e, tm_pJ_e, tm_pV_i, tm_pV_r, tm_cI_e, tm_cZ_e, tm_cJ_e, tm_cQ_e, tm_cO_e, tm_rq_e, List.set_cons_zero, List.set_cons_succ, List.contains_cons, List.contains_nil, Nat.reduceBEq, Bool.or_false, Bool.false_or, Bool.or_true, Bool.true_or, Bool.or_self, cond_true, cond_false, true_and, and_true, or_true, true_or, true_implies, false_implies, not_true_eq_false, not_false_eq_true, List.length_cons, List.length_nil, Option.toList_some, Option.toList_none, List.cons_append, List.nil_append, ws_R_change_0, ws_R_change_1, ws_R_change_4, ws_R_change_5, ws_R_change_6, ws_R_change_7, ws_R_change_8, ws_R_change_11, ws_R_change_12, ws_R_change_13, ws_R_change_16, ws_R_change_17, ws_R_change_18, ws_R_change_19, ws_R_change_20, ws_R_change_23, ws_R_change_24, ws_R_change_25, ws_R_change_26, tm_up_s, tm_up_n, tm_up_up, nI_leI, nI_ltI, nI_eq, nI_cl, nI_in', ix_1shl, ix_or, ix_xor, nI_1, bI_0, bI_1, bI_F, pk_us, pk_un, h0, hr, hK]
/-- what 'next' leaves -/
def gNxt (n : Nat) (r : Nat → Nat) (f f' : Nat → Int32) (b : Bool) : Prop := (b = false → f' = f ∧ ∀ k, k + 1 < n → r (k + 1) < r k) ∧ (b = true → ∃ r' i j, gRw n r' f' ∧ gp_nx n i j r r')
set_option maxRecDepth 20000 in
theorem c_R_next {n : Nat} {r : Nat → Nat} (h0 : h 27 = tm_o 5 [.int t, .ref 28, .ref 29, .ref 30, .ref 31, .ref 32, .int l, .ref 33, .int ol, .ref 34, .ref 35, .ref 36, .ref 37]) (hr : h 31 = tm_i 7 f) (hn : n ≤ 7) (hw : gRw n r f) : tm_C M_R_next 1 0 [.ref 27, .int (nI n)] h (fun z k => ∃ (b : Bool) (f' : Nat → Int32), z = .inl (some (.int (bI b))) ∧ k = tm_up h 31 (tm_i 7 f') ∧ gNxt n r f f' b) := by
  refine tm_C.by (L := [some (.ref 27), some (.int (nI n)), none, none, none, none]) rfl rfl rfl rfl rfl ?_
  obtain ⟨Q, hQ⟩ : ∃ Q : tm_O → tm_Hp → Prop, Q = (fun z k => ∃ (b : Bool) (f' : Nat → Int32), z = .inl (some (.int (bI b))) ∧ k = tm_up h 31 (tm_i 7 f') ∧ gNxt n r f f' b) := ⟨_, rfl⟩
  rw [← hQ]
  have hfin : ∀ (b : Bool) (f' : Nat → Int32), gNxt n r f f' b → Q (.inl (some (.int (bI b)))) (tm_up h 31 (tm_i 7 f')) := fun b f' q => by rw [hQ]; exact ⟨b, f', rfl, rfl, q⟩
  have e1 : 1 ≤ n → nI n - 1 = nI (n - 1) := fun q => by rw [i_1]; exact pk_sub q
  have dec : ∀ k, nI (k + 1) + (-1) = nI k := fun k => by rw [← nI_1]; rw [Int32.add_assoc]; simp
  -- turning round what stands behind i
  have l3 : ∀ (i m : Nat), i + 1 < n → r i < r (i + 1) → (∀ k, i < k → k + 1 < n → r (k + 1) < r k) → i < m → m < n → r i < r m → (∀ k, m < k → k < n → r k < r i) → ∀ (c a b : Nat) (f3 : Nat → Int32), b + 1 - a ≤ c → a + b = n + i → i < a → b < n → a ≤ b + 1 →
      (∀ k, k < 7 → f3 k = nI (if i < k ∧ k < n ∧ (k < a ∨ b < k) then (if n + i - k = m then r i else r (n + i - k)) else if k = i then r m else if k = m then r i else r k)) →
      tm_T M_R_next 1 0 Q 0 78 [some (.ref 27), some (.int (nI n)), some (.int (nI i)), some (.int (nI m)), some (.int (nI a)), some (.int (nI b))] [] (tm_up h 31 (tm_i 7 f3)) := by
    intro i m p1 p2 p3 p4 p5 p6 p7 c
    induction c with
    | zero =>
      intro a b f3 hc hab ha hb hab2 hf3
      have hle : b ≤ a := by omega
      apply tm_run [78] 80
      simp (disch := first | assumption | omega) only [↓reduceIte, tm_w_i, tm_w_0, Bool.false_eq_true, tm_gI_0, tm_gI_s, tm_gA_0, tm_gA_s, tm_fv_0, tm_fv_s, tm_p1_e, tm_pA_e, tm_pJ_e, tm_pV_i, tm_pV_r, tm_cI_e, tm_cZ_e, tm_cJ_e, tm_cQ_e, tm_cO_e, tm_rq_e, List.set_cons_zero, List.set_cons_succ, List.contains_cons, List.contains_nil, Nat.reduceBEq, Bool.or_false, Bool.false_or, Bool.or_true, Bool.true_or, Bool.or_self, cond_true, cond_false, true_and, and_true, or_true, true_or, true_implies, false_implies, not_true_eq_false, not_false_eq_true, List.length_cons, List.length_nil, Option.toList_some, Option.toList_none, List.cons_append, List.nil_append, ws_R_next_0, ws_R_next_1, ws_R_next_2, ws_R_next_3, ws_R_next_4, ws_R_next_5, ws_R_next_8, ws_R_next_9, ws_R_next_12, ws_R_next_13, ws_R_next_14, ws_R_next_15, ws_R_next_18, ws_R_next_19, ws_R_next_20, ws_R_next_21, ws_R_next_22, ws_R_next_25, ws_R_next_28, ws_R_next_31, ws_R_next_32, ws_R_next_35, ws_R_next_36, ws_R_next_37, ws_R_next_38, ws_R_next_39, ws_R_next_40, ws_R_next_41, ws_R_next_42, ws_R_next_45, ws_R_next_46, ws_R_next_47, ws_R_next_48, ws_R_next_51, ws_R_next_52, ws_R_next_53, ws_R_next_56, ws_R_next_59, ws_R_next_62, ws_R_next_63, ws_R_next_64, ws_R_next_65, ws_R_next_68, ws_R_next_69, ws_R_next_70, ws_R_next_71, ws_R_next_73, ws_R_next_74, ws_R_next_75, ws_R_next_76, ws_R_next_78, ws_R_next_80, ws_R_next_82, ws_R_next_85, ws_R_next_86, ws_R_next_88, ws_R_next_90, ws_R_next_93, ws_R_next_96, ws_R_next_99, ws_R_next_102, ws_R_next_103, tm_up_s, tm_up_n, tm_up_up, nI_leI, nI_ltI, nI_eq, nI_cl, nI_in', ix_1shl, ix_or, ix_xor, nI_1, bI_0, bI_1, bI_F, pk_us, pk_un, hle]
      refine hfin true f3 ⟨(fun q => nomatch q), fun _ => ?_⟩
      have nx : gp_nx n i m r (fun k => if i < k ∧ k < n ∧ (k < a ∨ b < k) then (if n + i - k = m then r i else r (n + i - k)) else if k = i then r m else if k = m then r i else r k) := by
        refine ⟨p1, p2, p3, p4, p5, p6, p7, fun k hk => ?_, ?_, fun k hk hk2 => ?_⟩
        · dsimp only
          rw [if_neg (by omega), if_neg (by omega), if_neg (by omega)]
        · dsimp only
          rw [if_neg (by omega), if_pos rfl]
        · dsimp only
          rw [if_pos ⟨hk, hk2, by omega⟩]
      refine ⟨_, i, m, ⟨gp_nx_pm hw.1 nx, hf3, fun k hk hk2 => ?_⟩, nx⟩
      try dsimp only
      rw [if_neg (by omega), if_neg (by omega), if_neg (by omega)]
      exact hw.2.2 k hk hk2
    | succ c ih =>
      intro a b f3 hc hab ha hb hab2 hf3
      by_cases hlt : b ≤ a
      · apply tm_run [78] 80
        simp (disch := first | assumption | omega) only [↓reduceIte, tm_w_i, tm_w_0, Bool.false_eq_true, tm_gI_0, tm_gI_s, tm_gA_0, tm_gA_s, tm_fv_0, tm_fv_s, tm_p1_e, tm_pA_e, tm_pJ_e, tm_pV_i, tm_pV_r, tm_cI_e, tm_cZ_e, tm_cJ_e, tm_cQ_e, tm_cO_e, tm_rq_e, List.set_cons_zero, List.set_cons_succ, List.contains_cons, List.contains_nil, Nat.reduceBEq, Bool.or_false, Bool.false_or, Bool.or_true, Bool.true_or, Bool.or_self, cond_true, cond_false, true_and, and_true, or_true, true_or, true_implies, false_implies, not_true_eq_false, not_false_eq_true, List.length_cons, List.length_nil, Option.toList_some, Option.toList_none, List.cons_append, List.nil_append, ws_R_next_0, ws_R_next_1, ws_R_next_2, ws_R_next_3, ws_R_next_4, ws_R_next_5, ws_R_next_8, ws_R_next_9, ws_R_next_12, ws_R_next_13, ws_R_next_14, ws_R_next_15, ws_R_next_18, ws_R_next_19, ws_R_next_20, ws_R_next_21, ws_R_next_22, ws_R_next_25, ws_R_next_28, ws_R_next_31, ws_R_next_32, ws_R_next_35, ws_R_next_36, ws_R_next_37, ws_R_next_38, ws_R_next_39, ws_R_next_40, ws_R_next_41, ws_R_next_42, ws_R_next_45, ws_R_next_46, ws_R_next_47, ws_R_next_48, ws_R_next_51, ws_R_next_52, ws_R_next_53, ws_R_next_56, ws_R_next_59, ws_R_next_62, ws_R_next_63, ws_R_next_64, ws_R_next_65, ws_R_next_68, ws_R_next_69, ws_R_next_70, ws_R_next_71, ws_R_next_73, ws_R_next_74, ws_R_next_75, ws_R_next_76, ws_R_next_78, ws_R_next_80, ws_R_next_82, ws_R_next_85, ws_R_next_86, ws_R_next_88, ws_R_next_90, ws_R_next_93, ws_R_next_96, ws_R_next_99, ws_R_next_102, ws_R_next_103, tm_up_s, tm_up_n, tm_up_up, nI_leI, nI_ltI, nI_eq, nI_cl, nI_in', ix_1shl, ix_or, ix_xor, nI_1, bI_0, bI_1, bI_F, pk_us, pk_un, hlt]
        refine hfin true f3 ⟨(fun q => nomatch q), fun _ => ?_⟩
        have nx : gp_nx n i m r (fun k => if i < k ∧ k < n ∧ (k < a ∨ b < k) then (if n + i - k = m then r i else r (n + i - k)) else if k = i then r m else if k = m then r i else r k) := by
          refine ⟨p1, p2, p3, p4, p5, p6, p7, fun k hk => ?_, ?_, fun k hk hk2 => ?_⟩
          · dsimp only
            rw [if_neg (by omega), if_neg (by omega), if_neg (by omega)]
          · dsimp only
            rw [if_neg (by omega), if_pos rfl]
          · dsimp only
            by_cases q : k < a ∨ b < k
            · rw [if_pos ⟨hk, hk2, q⟩]
            · rw [if_neg (by omega), if_neg (by omega), show n + i - k = k by omega]
        refine ⟨_, i, m, ⟨gp_nx_pm hw.1 nx, hf3, fun k hk hk2 => ?_⟩, nx⟩
        try dsimp only
        rw [if_neg (by omega), if_neg (by omega), if_neg (by omega)]
        exact hw.2.2 k hk hk2
      · obtain ⟨b, rfl⟩ : ∃ b', b = b' + 1 := ⟨b - 1, by omega⟩
        apply tm_run [78] 80
        simp (disch := first | assumption | omega) only [↓reduceIte, tm_w_i, tm_w_0, Bool.false_eq_true, tm_gI_0, tm_gI_s, tm_gA_0, tm_gA_s, tm_fv_0, tm_fv_s, tm_p1_e, tm_pA_e, tm_pJ_e, tm_pV_i, tm_pV_r, tm_cI_e, tm_cZ_e, tm_cJ_e, tm_cQ_e, tm_cO_e, tm_rq_e, List.set_cons_zero, List.set_cons_succ, List.contains_cons, List.contains_nil, Nat.reduceBEq, Bool.or_false, Bool.false_or, Bool.or_true, Bool.true_or, Bool.or_self, cond_true, cond_false, true_and, and_true, or_true, true_or, true_implies, false_implies, not_true_eq_false, not_false_eq_true, List.length_cons, List.length_nil, Option.toList_some, Option.toList_none, List.cons_append, List.nil_append, ws_R_next_0, ws_R_next_1, ws_R_next_2, ws_R_next_3, ws_R_next_4, ws_R_next_5, ws_R_next_8, ws_R_next_9, ws_R_next_12, ws_R_next_13, ws_R_next_14, ws_R_next_15, ws_R_next_18, ws_R_next_19, ws_R_next_20, ws_R_next_21, ws_R_next_22, ws_R_next_25, ws_R_next_28, ws_R_next_31, ws_R_next_32, ws_R_next_35, ws_R_next_36, ws_R_next_37, ws_R_next_38, ws_R_next_39, ws_R_next_40, ws_R_next_41, ws_R_next_42, ws_R_next_45, ws_R_next_46, ws_R_next_47, ws_R_next_48, ws_R_next_51, ws_R_next_52, ws_R_next_53, ws_R_next_56, ws_R_next_59, ws_R_next_62, ws_R_next_63, ws_R_next_64, ws_R_next_65, ws_R_next_68, ws_R_next_69, ws_R_next_70, ws_R_next_71, ws_R_next_73, ws_R_next_74, ws_R_next_75, ws_R_next_76, ws_R_next_78, ws_R_next_80, ws_R_next_82, ws_R_next_85, ws_R_next_86, ws_R_next_88, ws_R_next_90, ws_R_next_93, ws_R_next_96, ws_R_next_99, ws_R_next_102, ws_R_next_103, tm_up_s, tm_up_n, tm_up_up, nI_leI, nI_ltI, nI_eq, nI_cl, nI_in', ix_1shl, ix_or, ix_xor, nI_1, bI_0, bI_1, bI_F, pk_us, pk_un, hlt]
        refine kd_R_next_90 ((tm_up_n (by decide)).trans h0) (Nat.le_of_ble_eq_true rfl) (by omega) (by omega) (c_R_change ((tm_up_n (by decide)).trans h0) (tm_up_s _ _ _) (by omega) (by omega)) ?_
        apply tm_run [78] 80
        simp (disch := first | assumption | omega) only [↓reduceIte, tm_w_i, tm_w_0, Bool.false_eq_true, tm_gI_0, tm_gI_s, tm_gA_0, tm_gA_s, tm_fv_0, tm_fv_s, tm_p1_e, tm_pA_e, tm_pJ_e, tm_pV_i, tm_pV_r, tm_cI_e, tm_cZ_e, tm_cJ_e, tm_cQ_e, tm_cO_e, tm_rq_e, List.set_cons_zero, List.set_cons_succ, List.contains_cons, List.contains_nil, Nat.reduceBEq, Bool.or_false, Bool.false_or, Bool.or_true, Bool.true_or, Bool.or_self, cond_true, cond_false, true_and, and_true, or_true, true_or, true_implies, false_implies, not_true_eq_false, not_false_eq_true, List.length_cons, List.length_nil, Option.toList_some, Option.toList_none, List.cons_append, List.nil_append, ws_R_next_0, ws_R_next_1, ws_R_next_2, ws_R_next_3, ws_R_next_4, ws_R_next_5, ws_R_next_8, ws_R_next_9, ws_R_next_12, ws_R_next_13, ws_R_next_14, ws_R_next_15, ws_R_next_18, ws_R_next_19, ws_R_next_20, ws_R_next_21, ws_R_next_22, ws_R_next_25, ws_R_next_28, ws_R_next_31, ws_R_next_32, ws_R_next_35, ws_R_next_36, ws_R_next_37, ws_R_next_38, ws_R_next_39, ws_R_next_40, ws_R_next_41, ws_R_next_42, ws_R_next_45, ws_R_next_46, ws_R_next_47, ws_R_next_48, ws_R_next_51, ws_R_next_52, ws_R_next_53, ws_R_next_56, ws_R_next_59, ws_R_next_62, ws_R_next_63, ws_R_next_64, ws_R_next_65, ws_R_next_68, ws_R_next_69, ws_R_next_70, ws_R_next_71, ws_R_next_73, ws_R_next_74, ws_R_next_75, ws_R_next_76, ws_R_next_78, ws_R_next_80, ws_R_next_82, ws_R_next_85, ws_R_next_86, ws_R_next_88, ws_R_next_90, ws_R_next_93, ws_R_next_96, ws_R_next_99, ws_R_next_102, ws_R_next_103, tm_up_s, tm_up_n, tm_up_up, nI_leI, nI_ltI, nI_eq, nI_cl, nI_in', ix_1shl, ix_or, ix_xor, nI_1, bI_0, bI_1, bI_F, pk_us, pk_un, dec b]
        refine ih (a + 1) b _ (by omega) (by omega) (by omega) (by omega) (by omega) (fun k hk => ?_)
        by_cases q1 : k = b + 1
        · rw [q1, pk_us, hf3 a (by omega), if_neg (show ¬ (i < a ∧ a < n ∧ (a < a ∨ b + 1 < a)) by omega), if_neg (show ¬ a = i by omega), if_pos (show i < b + 1 ∧ b + 1 < n ∧ (b + 1 < a + 1 ∨ b < b + 1) by omega), show n + i - (b + 1) = a by omega]
        · rw [pk_un q1]
          by_cases q2 : k = a
          · rw [q2, pk_us, hf3 (b + 1) (by omega), if_neg (show ¬ (i < b + 1 ∧ b + 1 < n ∧ (b + 1 < a ∨ b + 1 < b + 1)) by omega), if_neg (show ¬ b + 1 = i by omega), if_pos (show i < a ∧ a < n ∧ (a < a + 1 ∨ b < a) by omega), show n + i - a = b + 1 by omega]
          · rw [pk_un q2, hf3 k hk]
            by_cases q3 : i < k ∧ k < n ∧ (k < a ∨ b + 1 < k)
            · rw [if_pos q3, if_pos (show i < k ∧ k < n ∧ (k < a + 1 ∨ b < k) by omega)]
            · rw [if_neg q3, if_neg (show ¬ (i < k ∧ k < n ∧ (k < a + 1 ∨ b < k)) by omega)]
  have l2 : ∀ (i : Nat), i + 1 < n → r i < r (i + 1) → (∀ k, i < k → k + 1 < n → r (k + 1) < r k) → ∀ (c m : Nat), m ≤ i + 1 + c → i < m → m < n → (∀ k, m < k → k < n → r k < r i) →
      tm_T M_R_next 1 0 Q 0 41 [some (.ref 27), some (.int (nI n)), some (.int (nI i)), some (.int (nI m)), none, none] [] h := by
    intro i p1 p2 p3 c
    induction c with
    | zero =>
      intro m hm p4 p5 p7
      obtain rfl : m = i + 1 := by omega
      have f1 := hw.2.1 (i + 1) (by omega)
      have f2 := hw.2.1 i (by omega)
      have r1 := gRw_lt hw hn (show i < 7 by omega)
      have r2 := gRw_lt hw hn (show i + 1 < 7 by omega)
      have hle : r i ≤ r (i + 1) := by omega
      apply tm_run [78, 41] 80
      simp (disch := first | assumption | omega) only [↓reduceIte, tm_w_i, tm_w_0, Bool.false_eq_true, tm_gI_0, tm_gI_s, tm_gA_0, tm_gA_s, tm_fv_0, tm_fv_s, tm_p1_e, tm_pA_e, tm_pJ_e, tm_pV_i, tm_pV_r, tm_cI_e, tm_cZ_e, tm_cJ_e, tm_cQ_e, tm_cO_e, tm_rq_e, List.set_cons_zero, List.set_cons_succ, List.contains_cons, List.contains_nil, Nat.reduceBEq, Bool.or_false, Bool.false_or, Bool.or_true, Bool.true_or, Bool.or_self, cond_true, cond_false, true_and, and_true, or_true, true_or, true_implies, false_implies, not_true_eq_false, not_false_eq_true, List.length_cons, List.length_nil, Option.toList_some, Option.toList_none, List.cons_append, List.nil_append, ws_R_next_0, ws_R_next_1, ws_R_next_2, ws_R_next_3, ws_R_next_4, ws_R_next_5, ws_R_next_8, ws_R_next_9, ws_R_next_12, ws_R_next_13, ws_R_next_14, ws_R_next_15, ws_R_next_18, ws_R_next_19, ws_R_next_20, ws_R_next_21, ws_R_next_22, ws_R_next_25, ws_R_next_28, ws_R_next_31, ws_R_next_32, ws_R_next_35, ws_R_next_36, ws_R_next_37, ws_R_next_38, ws_R_next_39, ws_R_next_40, ws_R_next_41, ws_R_next_42, ws_R_next_45, ws_R_next_46, ws_R_next_47, ws_R_next_48, ws_R_next_51, ws_R_next_52, ws_R_next_53, ws_R_next_56, ws_R_next_59, ws_R_next_62, ws_R_next_63, ws_R_next_64, ws_R_next_65, ws_R_next_68, ws_R_next_69, ws_R_next_70, ws_R_next_71, ws_R_next_73, ws_R_next_74, ws_R_next_75, ws_R_next_76, ws_R_next_78, ws_R_next_80, ws_R_next_82, ws_R_next_85, ws_R_next_86, ws_R_next_88, ws_R_next_90, ws_R_next_93, ws_R_next_96, ws_R_next_99, ws_R_next_102, ws_R_next_103, tm_up_s, tm_up_n, tm_up_up, nI_leI, nI_ltI, nI_eq, nI_cl, nI_in', ix_1shl, ix_or, ix_xor, nI_1, bI_0, bI_1, bI_F, pk_us, pk_un, h0, hr, f1, f2, hle]
      refine kd_R_next_65 h0 (Nat.le_of_ble_eq_true rfl) (by omega) (by omega) (c_R_change h0 hr (by omega) (by omega)) ?_
      apply tm_run [78, 41] 80
      simp (disch := first | assumption | omega) only [↓reduceIte, tm_w_i, tm_w_0, Bool.false_eq_true, tm_gI_0, tm_gI_s, tm_gA_0, tm_gA_s, tm_fv_0, tm_fv_s, tm_p1_e, tm_pA_e, tm_pJ_e, tm_pV_i, tm_pV_r, tm_cI_e, tm_cZ_e, tm_cJ_e, tm_cQ_e, tm_cO_e, tm_rq_e, List.set_cons_zero, List.set_cons_succ, List.contains_cons, List.contains_nil, Nat.reduceBEq, Bool.or_false, Bool.false_or, Bool.or_true, Bool.true_or, Bool.or_self, cond_true, cond_false, true_and, and_true, or_true, true_or, true_implies, false_implies, not_true_eq_false, not_false_eq_true, List.length_cons, List.length_nil, Option.toList_some, Option.toList_none, List.cons_append, List.nil_append, ws_R_next_0, ws_R_next_1, ws_R_next_2, ws_R_next_3, ws_R_next_4, ws_R_next_5, ws_R_next_8, ws_R_next_9, ws_R_next_12, ws_R_next_13, ws_R_next_14, ws_R_next_15, ws_R_next_18, ws_R_next_19, ws_R_next_20, ws_R_next_21, ws_R_next_22, ws_R_next_25, ws_R_next_28, ws_R_next_31, ws_R_next_32, ws_R_next_35, ws_R_next_36, ws_R_next_37, ws_R_next_38, ws_R_next_39, ws_R_next_40, ws_R_next_41, ws_R_next_42, ws_R_next_45, ws_R_next_46, ws_R_next_47, ws_R_next_48, ws_R_next_51, ws_R_next_52, ws_R_next_53, ws_R_next_56, ws_R_next_59, ws_R_next_62, ws_R_next_63, ws_R_next_64, ws_R_next_65, ws_R_next_68, ws_R_next_69, ws_R_next_70, ws_R_next_71, ws_R_next_73, ws_R_next_74, ws_R_next_75, ws_R_next_76, ws_R_next_78, ws_R_next_80, ws_R_next_82, ws_R_next_85, ws_R_next_86, ws_R_next_88, ws_R_next_90, ws_R_next_93, ws_R_next_96, ws_R_next_99, ws_R_next_102, ws_R_next_103, tm_up_s, tm_up_n, tm_up_up, nI_leI, nI_ltI, nI_eq, nI_cl, nI_in', ix_1shl, ix_or, ix_xor, nI_1, bI_0, bI_1, bI_F, pk_us, pk_un, e1 (by omega)]
      refine l3 i (i + 1) p1 p2 p3 (by omega) p5 p2 p7 n (i + 1) (n - 1) _ (by omega) (by omega) (by omega) (by omega) (by omega) (fun k hk => ?_)
      rw [if_neg (by omega)]
      by_cases q1 : k = i + 1
      · rw [q1, pk_us, if_neg (by omega), if_pos rfl]; exact hw.2.1 i (by omega)
      · rw [pk_un q1]
        by_cases q2 : k = i
        · rw [q2, pk_us, if_pos rfl]; exact hw.2.1 _ (by omega)
        · rw [pk_un q2, if_neg q2, if_neg q1]; exact hw.2.1 k hk
    | succ c ih =>
      intro m hm p4 p5 p7
      have f1 := hw.2.1 m (by omega)
      have f2 := hw.2.1 i (by omega)
      have r1 := gRw_lt hw hn (show i < 7 by omega)
      have r2 := gRw_lt hw hn (show m < 7 by omega)
      by_cases hle : r i ≤ r m
      · have hlt : r i < r m := by
          rcases Nat.lt_or_ge (r i) (r m) with q | q
          · exact q
          · have := hw.1.2 i m (by omega) (by omega) (by omega)
            omega
        apply tm_run [78, 41] 80
        simp (disch := first | assumption | omega) only [↓reduceIte, tm_w_i, tm_w_0, Bool.false_eq_true, tm_gI_0, tm_gI_s, tm_gA_0, tm_gA_s, tm_fv_0, tm_fv_s, tm_p1_e, tm_pA_e, tm_pJ_e, tm_pV_i, tm_pV_r, tm_cI_e, tm_cZ_e, tm_cJ_e, tm_cQ_e, tm_cO_e, tm_rq_e, List.set_cons_zero, List.set_cons_succ, List.contains_cons, List.contains_nil, Nat.reduceBEq, Bool.or_false, Bool.false_or, Bool.or_true, Bool.true_or, Bool.or_self, cond_true, cond_false, true_and, and_true, or_true, true_or, true_implies, false_implies, not_true_eq_false, not_false_eq_true, List.length_cons, List.length_nil, Option.toList_some, Option.toList_none, List.cons_append, List.nil_append, ws_R_next_0, ws_R_next_1, ws_R_next_2, ws_R_next_3, ws_R_next_4, ws_R_next_5, ws_R_next_8, ws_R_next_9, ws_R_next_12, ws_R_next_13, ws_R_next_14, ws_R_next_15, ws_R_next_18, ws_R_next_19, ws_R_next_20, ws_R_next_21, ws_R_next_22, ws_R_next_25, ws_R_next_28, ws_R_next_31, ws_R_next_32, ws_R_next_35, ws_R_next_36, ws_R_next_37, ws_R_next_38, ws_R_next_39, ws_R_next_40, ws_R_next_41, ws_R_next_42, ws_R_next_45, ws_R_next_46, ws_R_next_47, ws_R_next_48, ws_R_next_51, ws_R_next_52, ws_R_next_53, ws_R_next_56, ws_R_next_59, ws_R_next_62, ws_R_next_63, ws_R_next_64, ws_R_next_65, ws_R_next_68, ws_R_next_69, ws_R_next_70, ws_R_next_71, ws_R_next_73, ws_R_next_74, ws_R_next_75, ws_R_next_76, ws_R_next_78, ws_R_next_80, ws_R_next_82, ws_R_next_85, ws_R_next_86, ws_R_next_88, ws_R_next_90, ws_R_next_93, ws_R_next_96, ws_R_next_99, ws_R_next_102, ws_R_next_103, tm_up_s, tm_up_n, tm_up_up, nI_leI, nI_ltI, nI_eq, nI_cl, nI_in', ix_1shl, ix_or, ix_xor, nI_1, bI_0, bI_1, bI_F, pk_us, pk_un, h0, hr, f1, f2, hle]
        refine kd_R_next_65 h0 (Nat.le_of_ble_eq_true rfl) (by omega) (by omega) (c_R_change h0 hr (by omega) (by omega)) ?_
        apply tm_run [78, 41] 80
        simp (disch := first | assumption | omega) only [↓reduceIte, tm_w_i, tm_w_0, Bool.false_eq_true, tm_gI_0, tm_gI_s, tm_gA_0, tm_gA_s, tm_fv_0, tm_fv_s, tm_p1_e, tm_pA_e, tm_pJ_e, tm_pV_i, tm_pV_r, tm_cI_e, tm_cZ_e, tm_cJ_e, tm_cQ_e, tm_cO_e, tm_rq_e, List.set_cons_zero, List.set_cons_succ, List.contains_cons, List.contains_nil, Nat.reduceBEq, Bool.or_false, Bool.false_or, Bool.or_true, Bool.true_or, Bool.or_self, cond_true, cond_false, true_and, and_true, or_true, true_or, true_implies, false_implies, not_true_eq_false, not_false_eq_true, List.length_cons, List.length_nil, Option.toList_some, Option.toList_none, List.cons_append, List.nil_append, ws_R_next_0, ws_R_next_1, ws_R_next_2, ws_R_next_3, ws_R_next_4, ws_R_next_5, ws_R_next_8, ws_R_next_9, ws_R_next_12, ws_R_next_13, ws_R_next_14, ws_R_next_15, ws_R_next_18, ws_R_next_19, ws_R_next_20, ws_R_next_21, ws_R_next_22, ws_R_next_25, ws_R_next_28, ws_R_next_31, ws_R_next_32, ws_R_next_35, ws_R_next_36, ws_R_next_37, ws_R_next_38, ws_R_next_39, ws_R_next_40, ws_R_next_41, ws_R_next_42, ws_R_next_45, ws_R_next_46, ws_R_next_47, ws_R_next_48, ws_R_next_51, ws_R_next_52, ws_R_next_53, ws_R_next_56, ws_R_next_59, ws_R_next_62, ws_R_next_63, ws_R_next_64, ws_R_next_65, ws_R_next_68, ws_R_next_69, ws_R_next_70, ws_R_next_71, ws_R_next_73, ws_R_next_74, ws_R_next_75, ws_R_next_76, ws_R_next_78, ws_R_next_80, ws_R_next_82, ws_R_next_85, ws_R_next_86, ws_R_next_88, ws_R_next_90, ws_R_next_93, ws_R_next_96, ws_R_next_99, ws_R_next_102, ws_R_next_103, tm_up_s, tm_up_n, tm_up_up, nI_leI, nI_ltI, nI_eq, nI_cl, nI_in', ix_1shl, ix_or, ix_xor, nI_1, bI_0, bI_1, bI_F, pk_us, pk_un, e1 (by omega)]
        refine l3 i m p1 p2 p3 p4 p5 hlt p7 n (i + 1) (n - 1) _ (by omega) (by omega) (by omega) (by omega) (by omega) (fun k hk => ?_)
        rw [if_neg (by omega)]
        by_cases q1 : k = m
        · rw [q1, pk_us, if_neg (by omega), if_pos rfl]; exact hw.2.1 i (by omega)
        · rw [pk_un q1]
          by_cases q2 : k = i
          · rw [q2, pk_us, if_pos rfl]; exact hw.2.1 _ (by omega)
          · rw [pk_un q2, if_neg q2, if_neg q1]; exact hw.2.1 k hk
      · obtain ⟨m, rfl⟩ : ∃ m', m = m' + 1 := ⟨m - 1, by omega⟩
        have hne : m ≠ i := fun q => by subst q; omega
        apply tm_run [78, 41] 80
        simp (disch := first | assumption | omega) only [↓reduceIte, tm_w_i, tm_w_0, Bool.false_eq_true, tm_gI_0, tm_gI_s, tm_gA_0, tm_gA_s, tm_fv_0, tm_fv_s, tm_p1_e, tm_pA_e, tm_pJ_e, tm_pV_i, tm_pV_r, tm_cI_e, tm_cZ_e, tm_cJ_e, tm_cQ_e, tm_cO_e, tm_rq_e, List.set_cons_zero, List.set_cons_succ, List.contains_cons, List.contains_nil, Nat.reduceBEq, Bool.or_false, Bool.false_or, Bool.or_true, Bool.true_or, Bool.or_self, cond_true, cond_false, true_and, and_true, or_true, true_or, true_implies, false_implies, not_true_eq_false, not_false_eq_true, List.length_cons, List.length_nil, Option.toList_some, Option.toList_none, List.cons_append, List.nil_append, ws_R_next_0, ws_R_next_1, ws_R_next_2, ws_R_next_3, ws_R_next_4, ws_R_next_5, ws_R_next_8, ws_R_next_9, ws_R_next_12, ws_R_next_13, ws_R_next_14, ws_R_next_15, ws_R_next_18, ws_R_next_19, ws_R_next_20, ws_R_next_21, ws_R_next_22, ws_R_next_25, ws_R_next_28, ws_R_next_31, ws_R_next_32, ws_R_next_35, ws_R_next_36, ws_R_next_37, ws_R_next_38, ws_R_next_39, ws_R_next_40, ws_R_next_41, ws_R_next_42, ws_R_next_45, ws_R_next_46, ws_R_next_47, ws_R_next_48, ws_R_next_51, ws_R_next_52, ws_R_next_53, ws_R_next_56, ws_R_next_59, ws_R_next_62, ws_R_next_63, ws_R_next_64, ws_R_next_65, ws_R_next_68, ws_R_next_69, ws_R_next_70, ws_R_next_71, ws_R_next_73, ws_R_next_74, ws_R_next_75, ws_R_next_76, ws_R_next_78, ws_R_next_80, ws_R_next_82, ws_R_next_85, ws_R_next_86, ws_R_next_88, ws_R_next_90, ws_R_next_93, ws_R_next_96, ws_R_next_99, ws_R_next_102, ws_R_next_103, tm_up_s, tm_up_n, tm_up_up, nI_leI, nI_ltI, nI_eq, nI_cl, nI_in', ix_1shl, ix_or, ix_xor, nI_1, bI_0, bI_1, bI_F, pk_us, pk_un, h0, hr, f1, f2, hle, dec m]
        refine ih m (by omega) (by omega) (by omega) (fun k hk hk2 => ?_)
        by_cases q : k = m + 1
        · rw [q]; omega
        · exact p7 k (by omega) hk2
  have l1 : ∀ (k : Nat), k + 1 < n → (∀ m, k < m → m + 1 < n → r (m + 1) < r m) → tm_T M_R_next 1 0 Q 0 4 [some (.ref 27), some (.int (nI n)), some (.int (nI k)), none, none, none] [] h := by
    intro k
    induction k with
    | zero =>
      intro hk p3
      have f1 := hw.2.1 1 (by omega)
      have f2 := hw.2.1 0 (by omega)
      have r1 := gRw_lt hw hn (show 0 < 7 by omega)
      have r2 := gRw_lt hw hn (show 1 < 7 by omega)
      have hp : ¬ nI 0 < 0 := by decide
      have hp' : (0 : Int32) ≤ nI 0 := by decide
      by_cases hle : r 0 ≤ r 1
      · have hlt : r 0 < r 1 := by
          rcases Nat.lt_or_ge (r 0) (r 1) with q | q
          · exact q
          · have := hw.1.2 0 1 (by omega) (by omega) (by omega)
            omega
        apply tm_run [78, 41, 4] 80
        simp (disch := first | assumption | omega) only [↓reduceIte, tm_w_i, tm_w_0, Bool.false_eq_true, tm_gI_0, tm_gI_s, tm_gA_0, tm_gA_s, tm_fv_0, tm_fv_s, tm_p1_e, tm_pA_e, tm_pJ_e, tm_pV_i, tm_pV_r, tm_cI_e, tm_cZ_e, tm_cJ_e, tm_cQ_e, tm_cO_e, tm_rq_e, List.set_cons_zero, List.set_cons_succ, List.contains_cons, List.contains_nil, Nat.reduceBEq, Bool.or_false, Bool.false_or, Bool.or_true, Bool.true_or, Bool.or_self, cond_true, cond_false, true_and, and_true, or_true, true_or, true_implies, false_implies, not_true_eq_false, not_false_eq_true, List.length_cons, List.length_nil, Option.toList_some, Option.toList_none, List.cons_append, List.nil_append, ws_R_next_0, ws_R_next_1, ws_R_next_2, ws_R_next_3, ws_R_next_4, ws_R_next_5, ws_R_next_8, ws_R_next_9, ws_R_next_12, ws_R_next_13, ws_R_next_14, ws_R_next_15, ws_R_next_18, ws_R_next_19, ws_R_next_20, ws_R_next_21, ws_R_next_22, ws_R_next_25, ws_R_next_28, ws_R_next_31, ws_R_next_32, ws_R_next_35, ws_R_next_36, ws_R_next_37, ws_R_next_38, ws_R_next_39, ws_R_next_40, ws_R_next_41, ws_R_next_42, ws_R_next_45, ws_R_next_46, ws_R_next_47, ws_R_next_48, ws_R_next_51, ws_R_next_52, ws_R_next_53, ws_R_next_56, ws_R_next_59, ws_R_next_62, ws_R_next_63, ws_R_next_64, ws_R_next_65, ws_R_next_68, ws_R_next_69, ws_R_next_70, ws_R_next_71, ws_R_next_73, ws_R_next_74, ws_R_next_75, ws_R_next_76, ws_R_next_78, ws_R_next_80, ws_R_next_82, ws_R_next_85, ws_R_next_86, ws_R_next_88, ws_R_next_90, ws_R_next_93, ws_R_next_96, ws_R_next_99, ws_R_next_102, ws_R_next_103, tm_up_s, tm_up_n, tm_up_up, nI_leI, nI_ltI, nI_eq, nI_cl, nI_in', ix_1shl, ix_or, ix_xor, nI_1, bI_0, bI_1, bI_F, pk_us, pk_un, h0, hr, f1, f2, hle, hp, hp', e1 (by omega)]
        exact l2 0 hk hlt p3 n (n - 1) (by omega) (by omega) (by omega) (fun k q1 q2 => by omega)
      · have hm1 : nI 0 + (-1) < 0 := by decide
        have hm2 : ¬ 0 ≤ nI 0 + (-1) := by decide
        apply tm_run [78, 41] 80
        simp (disch := first | assumption | omega) only [↓reduceIte, tm_w_i, tm_w_0, Bool.false_eq_true, tm_gI_0, tm_gI_s, tm_gA_0, tm_gA_s, tm_fv_0, tm_fv_s, tm_p1_e, tm_pA_e, tm_pJ_e, tm_pV_i, tm_pV_r, tm_cI_e, tm_cZ_e, tm_cJ_e, tm_cQ_e, tm_cO_e, tm_rq_e, List.set_cons_zero, List.set_cons_succ, List.contains_cons, List.contains_nil, Nat.reduceBEq, Bool.or_false, Bool.false_or, Bool.or_true, Bool.true_or, Bool.or_self, cond_true, cond_false, true_and, and_true, or_true, true_or, true_implies, false_implies, not_true_eq_false, not_false_eq_true, List.length_cons, List.length_nil, Option.toList_some, Option.toList_none, List.cons_append, List.nil_append, ws_R_next_0, ws_R_next_1, ws_R_next_2, ws_R_next_3, ws_R_next_4, ws_R_next_5, ws_R_next_8, ws_R_next_9, ws_R_next_12, ws_R_next_13, ws_R_next_14, ws_R_next_15, ws_R_next_18, ws_R_next_19, ws_R_next_20, ws_R_next_21, ws_R_next_22, ws_R_next_25, ws_R_next_28, ws_R_next_31, ws_R_next_32, ws_R_next_35, ws_R_next_36, ws_R_next_37, ws_R_next_38, ws_R_next_39, ws_R_next_40, ws_R_next_41, ws_R_next_42, ws_R_next_45, ws_R_next_46, ws_R_next_47, ws_R_next_48, ws_R_next_51, ws_R_next_52, ws_R_next_53, ws_R_next_56, ws_R_next_59, ws_R_next_62, ws_R_next_63, ws_R_next_64, ws_R_next_65, ws_R_next_68, ws_R_next_69, ws_R_next_70, ws_R_next_71, ws_R_next_73, ws_R_next_74, ws_R_next_75, ws_R_next_76, ws_R_next_78, ws_R_next_80, ws_R_next_82, ws_R_next_85, ws_R_next_86, ws_R_next_88, ws_R_next_90, ws_R_next_93, ws_R_next_96, ws_R_next_99, ws_R_next_102, ws_R_next_103, tm_up_s, tm_up_n, tm_up_up, nI_leI, nI_ltI, nI_eq, nI_cl, nI_in', ix_1shl, ix_or, ix_xor, nI_1, bI_0, bI_1, bI_F, pk_us, pk_un, h0, hr, f1, f2, hle, hp, hm1, hm2]
        have := hfin false f ⟨fun _ => ⟨rfl, fun k hk2 => ?_⟩, (fun q => nomatch q)⟩
        · rw [tm_up_id hr] at this; exact this
        · by_cases q : k = 0
          · subst q; show r 1 < r 0; omega
          · exact p3 k (by omega) hk2
    | succ k ih =>
      intro hk p3
      have f1 := hw.2.1 (k + 1 + 1) (by omega)
      have f2 := hw.2.1 (k + 1) (by omega)
      have r1 := gRw_lt hw hn (show k + 1 < 7 by omega)
      have r2 := gRw_lt hw hn (show k + 1 + 1 < 7 by omega)
      have hp : ¬ nI (k + 1) < 0 := nI_pos (by omega)
      have hp' : (0 : Int32) ≤ nI (k + 1) := nI_pos' (by omega)
      by_cases hle : r (k + 1) ≤ r (k + 1 + 1)
      · have hlt : r (k + 1) < r (k + 1 + 1) := by
          rcases Nat.lt_or_ge (r (k + 1)) (r (k + 1 + 1)) with q | q
          · exact q
          · have := hw.1.2 (k + 1) (k + 1 + 1) (by omega) (by omega) (by omega)
            omega
        apply tm_run [78, 41, 4] 80
        simp (disch := first | assumption | omega) only [↓reduceIte, tm_w_i, tm_w_0, Bool.false_eq_true, tm_gI_0, tm_gI_s, tm_gA_0, tm_gA_s, tm_fv_0, tm_fv_s, tm_p1_e, tm_pA_e, tm_pJ_e, tm_pV_i, tm_pV_r, tm_cI_e, tm_cZ_e, tm_cJ_e, tm_cQ_e, tm_cO_e, tm_rq_e, List.set_cons_zero, List.set_cons_succ, List.contains_cons, List.contains_nil, Nat.reduceBEq, Bool.or_false, Bool.false_or, Bool.or_true, Bool.true_or, Bool.or_self, cond_true, cond_false, true_and, and_true, or_true, true_or, true_implies, false_implies, not_true_eq_false, not_false_eq_true, List.length_cons, List.length_nil, Option.toList_some, Option.toList_none, List.cons_append, List.nil_append, ws_R_next_0, ws_R_next_1, ws_R_next_2, ws_R_next_3, ws_R_next_4, ws_R_next_5, ws_R_next_8, ws_R_next_9, ws_R_next_12, ws_R_next_13, ws_R_next_14, ws_R_next_15, ws_R_next_18, ws_R_next_19, ws_R_next_20, ws_R_next_21, ws_R_next_22, ws_R_next_25, ws_R_next_28, ws_R_next_31, ws_R_next_32, ws_R_next_35, ws_R_next_36, ws_R_next_37, ws_R_next_38, ws_R_next_39, ws_R_next_40, ws_R_next_41, ws_R_next_42, ws_R_next_45, ws_R_next_46, ws_R_next_47, ws_R_next_48, ws_R_next_51, ws_R_next_52, ws_R_next_53, ws_R_next_56, ws_R_next_59, ws_R_next_62, ws_R_next_63, ws_R_next_64, ws_R_next_65, ws_R_next_68, ws_R_next_69, ws_R_next_70, ws_R_next_71, ws_R_next_73, ws_R_next_74, ws_R_next_75, ws_R_next_76, ws_R_next_78, ws_R_next_80, ws_R_next_82, ws_R_next_85, ws_R_next_86, ws_R_next_88, ws_R_next_90, ws_R_next_93, ws_R_next_96, ws_R_next_99, ws_R_next_102, ws_R_next_103, tm_up_s, tm_up_n, tm_up_up, nI_leI, nI_ltI, nI_eq, nI_cl, nI_in', ix_1shl, ix_or, ix_xor, nI_1, bI_0, bI_1, bI_F, pk_us, pk_un, h0, hr, f1, f2, hle, hp, hp', e1 (by omega)]
        exact l2 (k + 1) hk hlt p3 n (n - 1) (by omega) (by omega) (by omega) (fun k q1 q2 => by omega)
      · apply tm_run [78, 41, 4] 80
        simp (disch := first | assumption | omega) only [↓reduceIte, tm_w_i, tm_w_0, Bool.false_eq_true, tm_gI_0, tm_gI_s, tm_gA_0, tm_gA_s, tm_fv_0, tm_fv_s, tm_p1_e, tm_pA_e, tm_pJ_e, tm_pV_i, tm_pV_r, tm_cI_e, tm_cZ_e, tm_cJ_e, tm_cQ_e, tm_cO_e, tm_rq_e, List.set_cons_zero, List.set_cons_succ, List.contains_cons, List.contains_nil, Nat.reduceBEq, Bool.or_false, Bool.false_or, Bool.or_true, Bool.true_or, Bool.or_self, cond_true, cond_false, true_and, and_true, or_true, true_or, true_implies, false_implies, not_true_eq_false, not_false_eq_true, List.length_cons, List.length_nil, Option.toList_some, Option.toList_none, List.cons_append, List.nil_append, ws_R_next_0, ws_R_next_1, ws_R_next_2, ws_R_next_3, ws_R_next_4, ws_R_next_5, ws_R_next_8, ws_R_next_9, ws_R_next_12, ws_R_next_13, ws_R_next_14, ws_R_next_15, ws_R_next_18, ws_R_next_19, ws_R_next_20, ws_R_next_21, ws_R_next_22, ws_R_next_25, ws_R_next_28, ws_R_next_31, ws_R_next_32, ws_R_next_35, ws_R_next_36, ws_R_next_37, ws_R_next_38, ws_R_next_39, ws_R_next_40, ws_R_next_41, ws_R_next_42, ws_R_next_45, ws_R_next_46, ws_R_next_47, ws_R_next_48, ws_R_next_51, ws_R_next_52, ws_R_next_53, ws_R_next_56, ws_R_next_59, ws_R_next_62, ws_R_next_63, ws_R_next_64, ws_R_next_65, ws_R_next_68, ws_R_next_69, ws_R_next_70, ws_R_next_71, ws_R_next_73, ws_R_next_74, ws_R_next_75, ws_R_next_76, ws_R_next_78, ws_R_next_80, ws_R_next_82, ws_R_next_85, ws_R_next_86, ws_R_next_88, ws_R_next_90, ws_R_next_93, ws_R_next_96, ws_R_next_99, ws_R_next_102, ws_R_next_103, tm_up_s, tm_up_n, tm_up_up, nI_leI, nI_ltI, nI_eq, nI_cl, nI_in', ix_1shl, ix_or, ix_xor, nI_1, bI_0, bI_1, bI_F, pk_us, pk_un, h0, hr, f1, f2, hle, hp, dec k]
        refine ih (by omega) (fun m hm hm2 => ?_)
        by_cases q : m = k + 1
        · rw [q]; omega
        · exact p3 m (by omega) hm2
  rcases Nat.lt_or_ge n 2 with hs | hs
  · have hm1 : nI n - 2 < 0 := by
      have : n = 0 ∨ n = 1 := by omega
      rcases this with q | q <;> rw [q] <;> decide
    have hm2 : ¬ 0 ≤ nI n - 2 := by
      have : n = 0 ∨ n = 1 := by omega
      rcases this with q | q <;> rw [q] <;> decide
    apply tm_run [78, 41, 4] 80
    simp (disch := first | assumption | omega) only [↓reduceIte, tm_w_i, tm_w_0, Bool.false_eq_true, tm_gI_0, tm_gI_s, tm_gA_0, tm_gA_s, tm_fv_0, tm_fv_s, tm_p1_e, tm_pA_e, tm_pJ_e, tm_pV_i, tm_pV_r, tm_cI_e, tm_cZ_e, tm_cJ_e, tm_cQ_e, tm_cO_e, tm_rq_e, List.set_cons_zero, List.set_cons_succ, List.contains_cons, List.contains_nil, Nat.reduceBEq, Bool.or_false, Bool.false_or, Bool.or_true, Bool.true_or, Bool.or_self, cond_true, cond_false, true_and, and_true, or_true, true_or, true_implies, false_implies, not_true_eq_false, not_false_eq_true, List.length_cons, List.length_nil, Option.toList_some, Option.toList_none, List.cons_append, List.nil_append, ws_R_next_0, ws_R_next_1, ws_R_next_2, ws_R_next_3, ws_R_next_4, ws_R_next_5, ws_R_next_8, ws_R_next_9, ws_R_next_12, ws_R_next_13, ws_R_next_14, ws_R_next_15, ws_R_next_18, ws_R_next_19, ws_R_next_20, ws_R_next_21, ws_R_next_22, ws_R_next_25, ws_R_next_28, ws_R_next_31, ws_R_next_32, ws_R_next_35, ws_R_next_36, ws_R_next_37, ws_R_next_38, ws_R_next_39, ws_R_next_40, ws_R_next_41, ws_R_next_42, ws_R_next_45, ws_R_next_46, ws_R_next_47, ws_R_next_48, ws_R_next_51, ws_R_next_52, ws_R_next_53, ws_R_next_56, ws_R_next_59, ws_R_next_62, ws_R_next_63, ws_R_next_64, ws_R_next_65, ws_R_next_68, ws_R_next_69, ws_R_next_70, ws_R_next_71, ws_R_next_73, ws_R_next_74, ws_R_next_75, ws_R_next_76, ws_R_next_78, ws_R_next_80, ws_R_next_82, ws_R_next_85, ws_R_next_86, ws_R_next_88, ws_R_next_90, ws_R_next_93, ws_R_next_96, ws_R_next_99, ws_R_next_102, ws_R_next_103, tm_up_s, tm_up_n, tm_up_up, nI_leI, nI_ltI, nI_eq, nI_cl, nI_in', ix_1shl, ix_or, ix_xor, nI_1, bI_0, bI_1, bI_F, pk_us, pk_un]
    apply tm_run [78, 41, 4] 80
    simp (disch := first | assumption | omega) only [↓reduceIte, tm_w_i, tm_w_0, Bool.false_eq_true, tm_gI_0, tm_gI_s, tm_gA_0, tm_gA_s, tm_fv_0, tm_fv_s, tm_p1_e, tm_pA_e, tm_pJ_e, tm_pV_i, tm_pV_r, tm_cI_e, tm_cZ_e, tm_cJ_e, tm_cQ_e, tm_cO_e, tm_rq_e, List.set_cons_zero, List.set_cons_succ, List.contains_cons, List.contains_nil, Nat.reduceBEq, Bool.or_false, Bool.false_or, Bool.or_true, Bool.true_or, Bool.or_self, cond_true, cond_false, true_and, and_true, or_true, true_or, true_implies, false_implies, not_true_eq_false, not_false_eq_true, List.length_cons, List.length_nil, Option.toList_some, Option.toList_none, List.cons_append, List.nil_append, ws_R_next_0, ws_R_next_1, ws_R_next_2, ws_R_next_3, ws_R_next_4, ws_R_next_5, ws_R_next_8, ws_R_next_9, ws_R_next_12, ws_R_next_13, ws_R_next_14, ws_R_next_15, ws_R_next_18, ws_R_next_19, ws_R_next_20, ws_R_next_21, ws_R_next_22, ws_R_next_25, ws_R_next_28, ws_R_next_31, ws_R_next_32, ws_R_next_35, ws_R_next_36, ws_R_next_37, ws_R_next_38, ws_R_next_39, ws_R_next_40, ws_R_next_41, ws_R_next_42, ws_R_next_45, ws_R_next_46, ws_R_next_47, ws_R_next_48, ws_R_next_51, ws_R_next_52, ws_R_next_53, ws_R_next_56, ws_R_next_59, ws_R_next_62, ws_R_next_63, ws_R_next_64, ws_R_next_65, ws_R_next_68, ws_R_next_69, ws_R_next_70, ws_R_next_71, ws_R_next_73, ws_R_next_74, ws_R_next_75, ws_R_next_76, ws_R_next_78, ws_R_next_80, ws_R_next_82, ws_R_next_85, ws_R_next_86, ws_R_next_88, ws_R_next_90, ws_R_next_93, ws_R_next_96, ws_R_next_99, ws_R_next_102, ws_R_next_103, tm_up_s, tm_up_n, tm_up_up, nI_leI, nI_ltI, nI_eq, nI_cl, nI_in', ix_1shl, ix_or, ix_xor, nI_1, bI_0, bI_1, bI_F, pk_us, pk_un, hm1, hm2]
    have := hfin false f ⟨fun _ => ⟨rfl, fun k hk => by omega⟩, (fun q => nomatch q)⟩
    rw [tm_up_id hr] at this
    exact this
  · have e2 : nI n - 2 = nI (n - 2) := by rw [i_2]; exact pk_sub hs
    apply tm_run [78, 41, 4] 80
    simp (disch := first | assumption | omega) only [↓reduceIte, tm_w_i, tm_w_0, Bool.false_eq_true, tm_gI_0, tm_gI_s, tm_gA_0, tm_gA_s, tm_fv_0, tm_fv_s, tm_p1_e, tm_pA_e, tm_pJ_e, tm_pV_i, tm_pV_r, tm_cI_e, tm_cZ_e, tm_cJ_e, tm_cQ_e, tm_cO_e, tm_rq_e, List.set_cons_zero, List.set_cons_succ, List.contains_cons, List.contains_nil, Nat.reduceBEq, Bool.or_false, Bool.false_or, Bool.or_true, Bool.true_or, Bool.or_self, cond_true, cond_false, true_and, and_true, or_true, true_or, true_implies, false_implies, not_true_eq_false, not_false_eq_true, List.length_cons, List.length_nil, Option.toList_some, Option.toList_none, List.cons_append, List.nil_append, ws_R_next_0, ws_R_next_1, ws_R_next_2, ws_R_next_3, ws_R_next_4, ws_R_next_5, ws_R_next_8, ws_R_next_9, ws_R_next_12, ws_R_next_13, ws_R_next_14, ws_R_next_15, ws_R_next_18, ws_R_next_19, ws_R_next_20, ws_R_next_21, ws_R_next_22, ws_R_next_25, ws_R_next_28, ws_R_next_31, ws_R_next_32, ws_R_next_35, ws_R_next_36, ws_R_next_37, ws_R_next_38, ws_R_next_39, ws_R_next_40, ws_R_next_41, ws_R_next_42, ws_R_next_45, ws_R_next_46, ws_R_next_47, ws_R_next_48, ws_R_next_51, ws_R_next_52, ws_R_next_53, ws_R_next_56, ws_R_next_59, ws_R_next_62, ws_R_next_63, ws_R_next_64, ws_R_next_65, ws_R_next_68, ws_R_next_69, ws_R_next_70, ws_R_next_71, ws_R_next_73, ws_R_next_74, ws_R_next_75, ws_R_next_76, ws_R_next_78, ws_R_next_80, ws_R_next_82, ws_R_next_85, ws_R_next_86, ws_R_next_88, ws_R_next_90, ws_R_next_93, ws_R_next_96, ws_R_next_99, ws_R_next_102, ws_R_next_103, tm_up_s, tm_up_n, tm_up_up, nI_leI, nI_ltI, nI_eq, nI_cl, nI_in', ix_1shl, ix_or, ix_xor, nI_1, bI_0, bI_1, bI_F, pk_us, pk_un, e2]
    exact l1 (n - 2) (by omega) (fun m hm hm2 => by omega)
end CE
