section BF
variable {h : tm_Hp} {p a b n : Nat} {c f : Nat → Int32} {nb cc : Nat → Nat}
theorem i_m1 : (-1 : Int32) = nI 4294967295 := by decide
/-- two sets agree but for v and w -/
theorem g_tw {x y v w : Nat} (hx : x < 128) (hy : y < 128) (hv : v < 7) (hw : w < 7) : (x &&& ((2 ^ v ||| 2 ^ w) ^^^ 4294967295) = y &&& ((2 ^ v ||| 2 ^ w) ^^^ 4294967295)) ↔ ∀ i, i < 7 → i ≠ v → i ≠ w → x.testBit i = y.testBit i := by
  have hb : ∀ i, i < 7 → (4294967295 : Nat).testBit i = true := by decide
  constructor
  · intro e i hi h1 h2
    have := congrArg (fun z => Nat.testBit z i) e
    simp only [Nat.testBit_and, Nat.testBit_xor, Nat.testBit_or, Nat.testBit_two_pow, hb i hi] at this
    simpa [Ne.symm h1, Ne.symm h2] using this
  · intro e
    have lx : x &&& ((2 ^ v ||| 2 ^ w) ^^^ 4294967295) < 128 := Nat.lt_of_le_of_lt Nat.and_le_left hx
    have ly : y &&& ((2 ^ v ||| 2 ^ w) ^^^ 4294967295) < 128 := Nat.lt_of_le_of_lt Nat.and_le_left hy
    apply g_bit_ext lx ly
    intro i hi
    simp only [Nat.testBit_and, Nat.testBit_xor, Nat.testBit_or, Nat.testBit_two_pow, hb i hi]
    by_cases h1 : i = v
    · subst h1; simp
    · by_cases h2 : i = w
      · subst h2; simp
      · rw [e i hi h1 h2]
theorem c_G_twins {v w x y : Nat} (hp : h p = tm_o 1 [.int (nI n), .ref a, .ref b]) (hb : h b = tm_i 7 f) (hv : v < 7) (hw : w < 7) (hfv : f v = nI x) (hx : x < 128) (hfw : f w = nI y) (hy : y < 128) :
    tm_C M_G_twins 0 0 [.ref p, .int (nI v), .int (nI w)] h (fun o k => (∃ r : Bool, (r = true ↔ ∀ i, i < 7 → i ≠ v → i ≠ w → x.testBit i = y.testBit i) ∧ o = .inl (some (.int (bI r)))) ∧ k = h) := by
  refine tm_C.by (L := [some (.ref p), some (.int (nI v)), some (.int (nI w)), none]) rfl rfl rfl rfl rfl ?_
  apply tm_run [] 40
  have lx : x &&& ((2 ^ v ||| 2 ^ w) ^^^ 4294967295) < 128 := Nat.lt_of_le_of_lt Nat.and_le_left hx
  have ly : y &&& ((2 ^ v ||| 2 ^ w) ^^^ 4294967295) < 128 := Nat.lt_of_le_of_lt Nat.and_le_left hy
  simp only [↓reduceIte, tm_w_i, tm_w_0, Bool.false_eq_true, tm_gI_0, tm_gI_s, tm_gA_0, tm_gA_s, tm_fv_0, tm_fv_s, tm_p1_e, tm_pA_e, tm_pJ_e, tm_pV_i, tm_pV_r, tm_cI_e, tm_cZ_e, tm_cJ_e, tm_cQ_e, tm_cO_e, tm_rq_e, List.set_cons_zero, List.set_cons_succ, List.contains_cons, List.contains_nil, Nat.reduceBEq, Bool.or_false, Bool.false_or, Bool.or_true, Bool.true_or, Bool.or_self, cond_true, cond_false, true_and, and_true, or_true, true_or, true_implies, false_implies, not_true_eq_false, not_false_eq_true, List.length_cons, List.length_nil, Option.toList_some, Option.toList_none, List.cons_append, List.nil_append, ws_G_twins_0, ws_G_twins_1, ws_G_twins_2, ws_G_twins_3, ws_G_twins_4, ws_G_twins_5, ws_G_twins_6, ws_G_twins_7, ws_G_twins_8, ws_G_twins_9, ws_G_twins_10, ws_G_twins_11, ws_G_twins_14, ws_G_twins_15, ws_G_twins_16, ws_G_twins_17, ws_G_twins_18, ws_G_twins_19, ws_G_twins_22, ws_G_twins_23, ws_G_twins_24, ws_G_twins_25, ws_G_twins_26, ws_G_twins_29, ws_G_twins_30, ws_G_twins_33, ws_G_twins_34, hp, hb, nI_cl (show v < 2560 by omega), nI_cl (show w < 2560 by omega), hfv, hfw, ix_1shl (show v < 31 by omega), ix_1shl (show w < 31 by omega), i_m1, ix_or, ix_xor, ix_and, nI_eq (show _ < 2 ^ 31 from Nat.lt_trans lx (by decide)) (show _ < 2 ^ 31 from Nat.lt_trans ly (by decide)), g_tw hx hy hv hw]
  refine ⟨nI_in' hv (by decide), nI_in' hw (by decide), fun e => ⟨false, ⟨(fun q => nomatch q), fun q => absurd q e⟩, rfl⟩, fun e => ⟨true, ⟨fun _ => Classical.byContradiction e, fun _ => rfl⟩, rfl⟩⟩
theorem c_G_addVertex {x : Int32} (hp : h p = tm_o 1 [.int (nI n), .ref a, .ref b]) (ha : h a = tm_i 7 c) (hb : h b = tm_i 7 f) (hn : n < 7) (haK : a < tm_K) (hbK : b < tm_K) (hab : a ≠ b) (hpa : p ≠ a) (hpb : p ≠ b) :
    tm_C M_G_addVertex 0 0 [.ref p, .int x] h (fun o k => o = .inl (some (.int (nI n))) ∧ k = tm_up (tm_up (tm_up h a (tm_i 7 (upd c n x))) b (tm_i 7 (upd f n 0))) p (tm_o 1 [.int (nI (n + 1)), .ref a, .ref b])) := by
  refine tm_C.by (L := [some (.ref p), some (.int x), none]) rfl rfl rfl rfl rfl ?_
  apply tm_run [] 40
  simp only [↓reduceIte, tm_w_i, tm_w_0, Bool.false_eq_true, tm_gI_0, tm_gI_s, tm_gA_0, tm_gA_s, tm_fv_0, tm_fv_s, tm_p1_e, tm_pA_e, tm_pJ_e, tm_pV_i, tm_pV_r, tm_cI_e, tm_cZ_e, tm_cJ_e, tm_cQ_e, tm_cO_e, tm_rq_e, List.set_cons_zero, List.set_cons_succ, List.contains_cons, List.contains_nil, Nat.reduceBEq, Bool.or_false, Bool.false_or, Bool.or_true, Bool.true_or, Bool.or_self, cond_true, cond_false, true_and, and_true, or_true, true_or, true_implies, false_implies, not_true_eq_false, not_false_eq_true, List.length_cons, List.length_nil, Option.toList_some, Option.toList_none, List.cons_append, List.nil_append, ws_G_addVertex_0, ws_G_addVertex_1, ws_G_addVertex_4, ws_G_addVertex_5, ws_G_addVertex_6, ws_G_addVertex_9, ws_G_addVertex_10, ws_G_addVertex_11, ws_G_addVertex_12, ws_G_addVertex_13, ws_G_addVertex_16, ws_G_addVertex_17, ws_G_addVertex_18, ws_G_addVertex_19, ws_G_addVertex_20, ws_G_addVertex_21, ws_G_addVertex_22, ws_G_addVertex_23, ws_G_addVertex_26, ws_G_addVertex_27, hp, ha, hb, tm_up_n hpa, tm_up_n hpb, tm_up_n hab.symm, nI_cl (show n < 2560 by omega), haK, hbK, nI_1]
  exact ⟨nI_in' hn (by decide), nI_in' hn (by decide), by decide⟩
theorem c_G_flipEdge {v w x y : Nat} (hp : h p = tm_o 1 [.int (nI n), .ref a, .ref b]) (hb : h b = tm_i 7 f) (hbK : b < tm_K) (hpb : p ≠ b) (hv : v < 7) (hw : w < 7) (hvw : v ≠ w) (hfv : f v = nI x) (hfw : f w = nI y) :
    tm_C M_G_flipEdge 0 0 [.ref p, .int (nI v), .int (nI w)] h (fun o k => o = .inl none ∧ k = tm_up h b (tm_i 7 (upd (upd f v (nI (x ^^^ 2 ^ w))) w (nI (y ^^^ 2 ^ v))))) := by
  refine tm_C.by (L := [some (.ref p), some (.int (nI v)), some (.int (nI w))]) rfl rfl rfl rfl rfl ?_
  apply tm_run [] 40
  simp only [↓reduceIte, tm_w_i, tm_w_0, Bool.false_eq_true, tm_gI_0, tm_gI_s, tm_gA_0, tm_gA_s, tm_fv_0, tm_fv_s, tm_p1_e, tm_pA_e, tm_pJ_e, tm_pV_i, tm_pV_r, tm_cI_e, tm_cZ_e, tm_cJ_e, tm_cQ_e, tm_cO_e, tm_rq_e, List.set_cons_zero, List.set_cons_succ, List.contains_cons, List.contains_nil, Nat.reduceBEq, Bool.or_false, Bool.false_or, Bool.or_true, Bool.true_or, Bool.or_self, cond_true, cond_false, true_and, and_true, or_true, true_or, true_implies, false_implies, not_true_eq_false, not_false_eq_true, List.length_cons, List.length_nil, Option.toList_some, Option.toList_none, List.cons_append, List.nil_append, ws_G_flipEdge_0, ws_G_flipEdge_1, ws_G_flipEdge_4, ws_G_flipEdge_5, ws_G_flipEdge_6, ws_G_flipEdge_7, ws_G_flipEdge_8, ws_G_flipEdge_9, ws_G_flipEdge_10, ws_G_flipEdge_11, ws_G_flipEdge_12, ws_G_flipEdge_13, ws_G_flipEdge_16, ws_G_flipEdge_17, ws_G_flipEdge_18, ws_G_flipEdge_19, ws_G_flipEdge_20, ws_G_flipEdge_21, ws_G_flipEdge_22, ws_G_flipEdge_23, ws_G_flipEdge_24, hp, hb, tm_up_n hpb, tm_up_s, tm_up_up, nI_cl (show v < 2560 by omega), nI_cl (show w < 2560 by omega), hbK, hfv, ix_1shl (show v < 31 by omega), ix_1shl (show w < 31 by omega), ix_xor, pk_un (f := f) (x := nI (x ^^^ 2 ^ w)) (Ne.symm hvw), hfw]
  exact ⟨nI_in' hv (by decide), nI_in' hv (by decide), nI_in' hw (by decide), nI_in' hw (by decide)⟩
end BF
