section BA
theorem tm_C.by {M : tm_M} {d u0 : Nat} {av : List Value} {h : tm_Hp} {Q : tm_O → tm_Hp → Prop} {L : List (Option Value)} (hy : plainName (tm_y M).cls = true) (ho : (tm_y M).cls = tm_own M) (hc : av.all (fun v => v.category == 1) = true) (hn : Nat.ble av.length (tm_nL M) = true)
    (hL : av.map some ++ List.replicate (tm_nL M - av.length) none = L) (hT : tm_T M d u0 Q 0 0 L [] h) : tm_C M d u0 av h Q := by
  subst hL
  exact tm_C.of hy ho (fun v hv => by simpa using List.all_eq_true.mp hc v hv) (Nat.le_of_ble_eq_true hn) hT
/-- contains(set, v), as it is written -/
theorem c0_N_contains {h : tm_Hp} {x y : Int32} : tm_C M_N_contains 0 0 [.int x, .int y] h (fun o k => o = .inl (some (.int (if x >>> (y &&& 31) &&& 1 = 0 then 0 else 1))) ∧ k = h) := by
  refine tm_C.by (L := [some (.int x), some (.int y)]) rfl rfl rfl rfl rfl ?_
  apply tm_run [] 30
  simp only [tm_w_s, tm_w_0, tm_gI_0, tm_gI_s, tm_gA_0, tm_gA_s, tm_fv_0, tm_fv_s, tm_p1_e, tm_pA_e, tm_pJ_e, tm_pV_i, tm_pV_r, tm_cI_e, tm_cZ_e, tm_cJ_e, tm_cQ_e, tm_cO_e, tm_rq_e, List.set_cons_zero, List.set_cons_succ, List.contains_cons, List.contains_nil, Nat.reduceBEq, Bool.or_false, Bool.false_or, Bool.or_true, Bool.true_or, Bool.or_self, cond_true, cond_false, true_and, and_true, ws_N_contains_0, ws_N_contains_1, ws_N_contains_2, ws_N_contains_3, ws_N_contains_4, ws_N_contains_5, ws_N_contains_8, ws_N_contains_9, ws_N_contains_12, ws_N_contains_13]
  trace_state
  sorry
end BA
theorem c0_G_linked {h : tm_Hp} {p a b m v w : Nat} {n : Int32} {f : Nat → Int32} (hp : h p = tm_o 1 [.int n, .ref a, .ref b]) (hb : h b = tm_i 7 f) (hv : v < 7) : tm_C M_G_linked 0 0 [.ref p, .int (nI v), .int (nI w)] h (fun o k => o = .inl (some (.int (if f v >>> (nI w &&& 31) &&& 1 = 0 then 0 else 1))) ∧ k = h) := by
  refine tm_C.by (L := [some (.ref p), some (.int (nI v)), some (.int (nI w))]) rfl rfl rfl rfl rfl ?_
  apply tm_run [] 30
  simp only [tm_w_s, tm_w_0, tm_gI_0, tm_gI_s, tm_gA_0, tm_gA_s, tm_fv_0, tm_fv_s, tm_p1_e, tm_pA_e, tm_pJ_e, tm_pV_i, tm_pV_r, tm_cI_e, tm_cZ_e, tm_cJ_e, tm_cQ_e, tm_cO_e, tm_rq_e, List.set_cons_zero, List.set_cons_succ, List.contains_cons, List.contains_nil, Nat.reduceBEq, Bool.or_false, Bool.false_or, Bool.or_true, Bool.true_or, Bool.or_self, cond_true, cond_false, true_and, and_true, ws_G_linked_0, ws_G_linked_1, ws_G_linked_4, ws_G_linked_5, ws_G_linked_6, ws_G_linked_7, ws_G_linked_8, ws_G_linked_9, ws_G_linked_10, ws_G_linked_13, ws_G_linked_14, ws_G_linked_17, ws_G_linked_18, hp, hb]
  trace_state
  sorry
