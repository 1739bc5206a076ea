section BC
/-- a set built bit by bit -/
def gMk (P : Nat → Bool) : Nat → Nat
  | 0 => 0
  | k + 1 => gMk P k ||| (if P k then 2 ^ k else 0)
theorem gMk_lt (P : Nat → Bool) : ∀ k, gMk P k < 2 ^ k
  | 0 => by simp [gMk]
  | k + 1 => by
    have h := gMk_lt P k
    have h2 : 2 ^ k < 2 ^ (k + 1) := Nat.pow_lt_pow_right (by decide) (Nat.lt_succ_self k)
    simp only [gMk]
    apply Nat.or_lt_two_pow
    · omega
    · split <;> omega
theorem gMk_bit (P : Nat → Bool) : ∀ k v, (gMk P k).testBit v = (decide (v < k) && P v)
  | 0, v => by simp [gMk]
  | k + 1, v => by
    simp only [gMk, Nat.testBit_or, gMk_bit P k v]
    by_cases e : v = k
    · subst e
      cases hP : P v <;> simp [Nat.testBit_two_pow_self]
    · have h1 : decide (v < k + 1) = decide (v < k) := by
        apply decide_eq_decide.mpr
        omega
      rw [h1]
      cases P k <;> simp [Nat.testBit_two_pow, Ne.symm e]
theorem gMk_lt' {P : Nat → Bool} {k : Nat} (hk : k ≤ 7) : gMk P k < 128 := by
  have h := gMk_lt P k
  have h2 : 2 ^ k ≤ 2 ^ 7 := Nat.pow_le_pow_right (by decide) hk
  omega
theorem g_bit_ext {a b : Nat} (ha : a < 128) (hb : b < 128) (h : ∀ v, v < 7 → a.testBit v = b.testBit v) : a = b := by
  apply Nat.eq_of_testBit_eq
  intro i
  by_cases hi : i < 7
  · exact h i hi
  · have h2 : 2 ^ 7 ≤ 2 ^ i := Nat.pow_le_pow_right (by decide) (by omega)
    rw [Nat.testBit_lt_two_pow (by omega), Nat.testBit_lt_two_pow (by omega)]
theorem gMk_eq {P P' : Nat → Bool} : ∀ {k : Nat}, (∀ v, v < k → P v = P' v) → gMk P k = gMk P' k
  | 0, _ => rfl
  | k + 1, h => by
    simp only [gMk]
    rw [gMk_eq (fun v hv => h v (by omega)), h k (Nat.lt_succ_self k)]
/-- a sum -/
def gS (f : Nat → Nat) : Nat → Nat
  | 0 => 0
  | k + 1 => gS f k + f k
theorem gS_le {f : Nat → Nat} {b : Nat} (h : ∀ i, f i ≤ b) : ∀ k, gS f k ≤ k * b
  | 0 => by simp [gS]
  | k + 1 => by
    have := gS_le h k
    have := h k
    simp only [gS, Nat.add_mul]
    omega
theorem gPop_le : ∀ k x, gPop k x ≤ k
  | 0, _ => Nat.le_refl _
  | k + 1, x => by
    have := gPop_le k x
    simp only [gPop]
    split <;> omega
theorem gpc_le (x : Nat) : gpc x ≤ 7 := gPop_le 7 x
/-- the graph's masks in an array -/
def gM (n : Nat) (f : Nat → Int32) (nb : Nat → Nat) : Prop := ∀ i, i < n → f i = nI (nb i) ∧ nb i < 128
end BC
section BD
variable {h : tm_Hp} {p a b n : Nat} {c f : Nat → Int32} {nb : Nat → Nat}
theorem c_G_all (hp : h p = tm_o 1 [.int (nI n), .ref a, .ref b]) (hn : n ≤ 7) : tm_C M_G_all 0 0 [.ref p] h (fun o k => o = .inl (some (.int (nI (2 ^ n - 1)))) ∧ k = h) := by
  refine tm_C.by (L := [some (.ref p)]) rfl rfl rfl rfl rfl ?_
  apply tm_run [] 30
  have e : (1 : Int32) <<< (nI n &&& 31) - 1 = nI (2 ^ n - 1) := by
    rw [ix_1shl (by omega), i_1, pk_sub (Nat.two_pow_pos n)]
  simp only [↓reduceIte, tm_w_i, tm_w_0, Bool.false_eq_true, tm_gI_0, tm_gI_s, tm_gA_0, tm_gA_s, tm_fv_0, tm_fv_s, tm_p1_e, tm_pA_e, tm_pJ_e, tm_pV_i, tm_pV_r, tm_cI_e, tm_cZ_e, tm_cJ_e, tm_cQ_e, tm_cO_e, tm_rq_e, List.set_cons_zero, List.set_cons_succ, List.contains_cons, List.contains_nil, Nat.reduceBEq, Bool.or_false, Bool.false_or, Bool.or_true, Bool.true_or, Bool.or_self, cond_true, cond_false, true_and, and_true, or_true, true_or, true_implies, false_implies, not_true_eq_false, not_false_eq_true, List.length_cons, List.length_nil, Option.toList_some, Option.toList_none, List.cons_append, List.nil_append, ws_G_all_0, ws_G_all_1, ws_G_all_2, ws_G_all_5, ws_G_all_6, ws_G_all_7, ws_G_all_8, hp, e]
theorem c_G_linked {v w x : Nat} (hp : h p = tm_o 1 [.int (nI n), .ref a, .ref b]) (hb : h b = tm_i 7 f) (hv : v < 7) (hf : f v = nI x) (hx : x < 128) (hw : w < 32) : tm_C M_G_linked 0 0 [.ref p, .int (nI v), .int (nI w)] h (fun o k => o = .inl (some (.int (bI (x.testBit w)))) ∧ k = h) := by
  refine tm_C.by (L := [some (.ref p), some (.int (nI v)), some (.int (nI w))]) rfl rfl rfl rfl rfl ?_
  apply tm_run [] 30
  simp only [↓reduceIte, tm_w_i, tm_w_0, Bool.false_eq_true, tm_gI_0, tm_gI_s, tm_gA_0, tm_gA_s, tm_fv_0, tm_fv_s, tm_p1_e, tm_pA_e, tm_pJ_e, tm_pV_i, tm_pV_r, tm_cI_e, tm_cZ_e, tm_cJ_e, tm_cQ_e, tm_cO_e, tm_rq_e, List.set_cons_zero, List.set_cons_succ, List.contains_cons, List.contains_nil, Nat.reduceBEq, Bool.or_false, Bool.false_or, Bool.or_true, Bool.true_or, Bool.or_self, cond_true, cond_false, true_and, and_true, or_true, true_or, true_implies, false_implies, not_true_eq_false, not_false_eq_true, List.length_cons, List.length_nil, Option.toList_some, Option.toList_none, List.cons_append, List.nil_append, ws_G_linked_0, ws_G_linked_1, ws_G_linked_4, ws_G_linked_5, ws_G_linked_6, ws_G_linked_7, ws_G_linked_8, ws_G_linked_9, ws_G_linked_10, ws_G_linked_13, ws_G_linked_14, ws_G_linked_17, ws_G_linked_18, hp, hb, nI_cl (show v < 2560 by omega), hf, ix_bit (show x < 2 ^ 31 by omega) hw]
  refine ⟨nI_in' hv (by decide), ?_⟩
  cases x.testBit w <;> simp [bI]
theorem c_G_degree {v x : Nat} (hp : h p = tm_o 1 [.int (nI n), .ref a, .ref b]) (hb : h b = tm_i 7 f) (hv : v < 7) (hf : f v = nI x) (hx : x < 128) : tm_C M_G_degree 1 0 [.ref p, .int (nI v)] h (fun o k => o = .inl (some (.int (nI (gpc x)))) ∧ k = h) := by
  refine tm_C.by (L := [some (.ref p), some (.int (nI v))]) rfl rfl rfl rfl rfl ?_
  apply tm_run [] 30
  simp only [↓reduceIte, tm_w_i, tm_w_0, Bool.false_eq_true, tm_gI_0, tm_gI_s, tm_gA_0, tm_gA_s, tm_fv_0, tm_fv_s, tm_p1_e, tm_pA_e, tm_pJ_e, tm_pV_i, tm_pV_r, tm_cI_e, tm_cZ_e, tm_cJ_e, tm_cQ_e, tm_cO_e, tm_rq_e, List.set_cons_zero, List.set_cons_succ, List.contains_cons, List.contains_nil, Nat.reduceBEq, Bool.or_false, Bool.false_or, Bool.or_true, Bool.true_or, Bool.or_self, cond_true, cond_false, true_and, and_true, or_true, true_or, true_implies, false_implies, not_true_eq_false, not_false_eq_true, List.length_cons, List.length_nil, Option.toList_some, Option.toList_none, List.cons_append, List.nil_append, ws_G_degree_0, ws_G_degree_1, ws_G_degree_4, ws_G_degree_5, ws_G_degree_6, ws_G_degree_9, hp, hb, nI_cl (show v < 2560 by omega), hf]
  refine ⟨nI_in' hv (by decide), kd_G_degree_6 (Nat.le_of_ble_eq_true rfl) (Nat.le_refl _) (Nat.le_refl _) (c_I_bitCount hx) ?_⟩
  apply tm_run [] 30
  simp only [↓reduceIte, tm_w_i, tm_w_0, Bool.false_eq_true, tm_gI_0, tm_gI_s, tm_gA_0, tm_gA_s, tm_fv_0, tm_fv_s, tm_p1_e, tm_pA_e, tm_pJ_e, tm_pV_i, tm_pV_r, tm_cI_e, tm_cZ_e, tm_cJ_e, tm_cQ_e, tm_cO_e, tm_rq_e, List.set_cons_zero, List.set_cons_succ, List.contains_cons, List.contains_nil, Nat.reduceBEq, Bool.or_false, Bool.false_or, Bool.or_true, Bool.true_or, Bool.or_self, cond_true, cond_false, true_and, and_true, or_true, true_or, true_implies, false_implies, not_true_eq_false, not_false_eq_true, List.length_cons, List.length_nil, Option.toList_some, Option.toList_none, List.cons_append, List.nil_append, ws_G_degree_0, ws_G_degree_1, ws_G_degree_4, ws_G_degree_5, ws_G_degree_6, ws_G_degree_9]
theorem l_G_edges {Q : tm_O → tm_Hp → Prop} (hp : h p = tm_o 1 [.int (nI n), .ref a, .ref b]) (hb : h b = tm_i 7 f) (hn : n ≤ 7) (hf : gM n f nb) (hQ : Q (.inl (some (.int (nI (gS (fun i => gpc (nb i)) n / 2))))) h) :
    ∀ k v, v + k = n → tm_T M_G_edges 2 0 Q 0 4 [some (.ref p), some (.int (nI (gS (fun i => gpc (nb i)) v))), some (.int (nI v))] [] h := by
  have hs : ∀ v, v ≤ 7 → gS (fun i => gpc (nb i)) v < 64 := by
    intro v hv
    have := gS_le (f := fun i => gpc (nb i)) (b := 7) (fun i => gpc_le _) v
    have : v * 7 ≤ 7 * 7 := Nat.mul_le_mul_right 7 hv
    omega
  intro k
  induction k with
  | zero =>
    intro v hv
    obtain rfl : v = n := by omega
    apply tm_run [4] 30
    have e : nI (gS (fun i => gpc (nb i)) v) / 2 = nI (gS (fun i => gpc (nb i)) v / 2) := by
      have := hs v hn
      rw [i_2, pk_div (by omega) (by decide) (by decide)]
    simp only [↓reduceIte, tm_w_i, tm_w_0, Bool.false_eq_true, tm_gI_0, tm_gI_s, tm_gA_0, tm_gA_s, tm_fv_0, tm_fv_s, tm_p1_e, tm_pA_e, tm_pJ_e, tm_pV_i, tm_pV_r, tm_cI_e, tm_cZ_e, tm_cJ_e, tm_cQ_e, tm_cO_e, tm_rq_e, List.set_cons_zero, List.set_cons_succ, List.contains_cons, List.contains_nil, Nat.reduceBEq, Bool.or_false, Bool.false_or, Bool.or_true, Bool.true_or, Bool.or_self, cond_true, cond_false, true_and, and_true, or_true, true_or, true_implies, false_implies, not_true_eq_false, not_false_eq_true, List.length_cons, List.length_nil, Option.toList_some, Option.toList_none, List.cons_append, List.nil_append, ws_G_edges_0, ws_G_edges_1, ws_G_edges_2, ws_G_edges_3, ws_G_edges_4, ws_G_edges_5, ws_G_edges_6, ws_G_edges_9, ws_G_edges_12, ws_G_edges_13, ws_G_edges_14, ws_G_edges_15, ws_G_edges_18, ws_G_edges_19, ws_G_edges_20, ws_G_edges_23, ws_G_edges_26, ws_G_edges_27, ws_G_edges_28, ws_G_edges_29, hp, nI_leI (show v < 2 ^ 31 by omega) (show v < 2 ^ 31 by omega), Nat.le_refl, e]
    exact ⟨by decide, hQ⟩
  | succ k ih =>
    intro v hv
    have hlt : ¬ n ≤ v := by omega
    obtain ⟨h1, h2⟩ := hf v (by omega)
    apply tm_run [4] 30
    simp only [↓reduceIte, tm_w_i, tm_w_0, Bool.false_eq_true, tm_gI_0, tm_gI_s, tm_gA_0, tm_gA_s, tm_fv_0, tm_fv_s, tm_p1_e, tm_pA_e, tm_pJ_e, tm_pV_i, tm_pV_r, tm_cI_e, tm_cZ_e, tm_cJ_e, tm_cQ_e, tm_cO_e, tm_rq_e, List.set_cons_zero, List.set_cons_succ, List.contains_cons, List.contains_nil, Nat.reduceBEq, Bool.or_false, Bool.false_or, Bool.or_true, Bool.true_or, Bool.or_self, cond_true, cond_false, true_and, and_true, or_true, true_or, true_implies, false_implies, not_true_eq_false, not_false_eq_true, List.length_cons, List.length_nil, Option.toList_some, Option.toList_none, List.cons_append, List.nil_append, ws_G_edges_0, ws_G_edges_1, ws_G_edges_2, ws_G_edges_3, ws_G_edges_4, ws_G_edges_5, ws_G_edges_6, ws_G_edges_9, ws_G_edges_12, ws_G_edges_13, ws_G_edges_14, ws_G_edges_15, ws_G_edges_18, ws_G_edges_19, ws_G_edges_20, ws_G_edges_23, ws_G_edges_26, ws_G_edges_27, ws_G_edges_28, ws_G_edges_29, hp, nI_leI (show n < 2 ^ 31 by omega) (show v < 2 ^ 31 by omega), hlt]
    refine kd_G_edges_15 hp (Nat.le_of_ble_eq_true rfl) (Nat.le_refl _) (Nat.le_refl _) (c_G_degree hp hb (by omega) h1 h2) ?_
    apply tm_run [4] 30
    simp only [↓reduceIte, tm_w_i, tm_w_0, Bool.false_eq_true, tm_gI_0, tm_gI_s, tm_gA_0, tm_gA_s, tm_fv_0, tm_fv_s, tm_p1_e, tm_pA_e, tm_pJ_e, tm_pV_i, tm_pV_r, tm_cI_e, tm_cZ_e, tm_cJ_e, tm_cQ_e, tm_cO_e, tm_rq_e, List.set_cons_zero, List.set_cons_succ, List.contains_cons, List.contains_nil, Nat.reduceBEq, Bool.or_false, Bool.false_or, Bool.or_true, Bool.true_or, Bool.or_self, cond_true, cond_false, true_and, and_true, or_true, true_or, true_implies, false_implies, not_true_eq_false, not_false_eq_true, List.length_cons, List.length_nil, Option.toList_some, Option.toList_none, List.cons_append, List.nil_append, ws_G_edges_0, ws_G_edges_1, ws_G_edges_2, ws_G_edges_3, ws_G_edges_4, ws_G_edges_5, ws_G_edges_6, ws_G_edges_9, ws_G_edges_12, ws_G_edges_13, ws_G_edges_14, ws_G_edges_15, ws_G_edges_18, ws_G_edges_19, ws_G_edges_20, ws_G_edges_23, ws_G_edges_26, ws_G_edges_27, ws_G_edges_28, ws_G_edges_29, nI_add, nI_1]
    exact ih (v + 1) (by omega)
theorem c_G_edges (hp : h p = tm_o 1 [.int (nI n), .ref a, .ref b]) (hb : h b = tm_i 7 f) (hn : n ≤ 7) (hf : gM n f nb) : tm_C M_G_edges 2 0 [.ref p] h (fun o k => o = .inl (some (.int (nI (gS (fun i => gpc (nb i)) n / 2)))) ∧ k = h) := by
  refine tm_C.by (L := [some (.ref p), none, none]) rfl rfl rfl rfl rfl ?_
  apply tm_run [4] 30
  simp only [↓reduceIte, tm_w_i, tm_w_0, Bool.false_eq_true, tm_gI_0, tm_gI_s, tm_gA_0, tm_gA_s, tm_fv_0, tm_fv_s, tm_p1_e, tm_pA_e, tm_pJ_e, tm_pV_i, tm_pV_r, tm_cI_e, tm_cZ_e, tm_cJ_e, tm_cQ_e, tm_cO_e, tm_rq_e, List.set_cons_zero, List.set_cons_succ, List.contains_cons, List.contains_nil, Nat.reduceBEq, Bool.or_false, Bool.false_or, Bool.or_true, Bool.true_or, Bool.or_self, cond_true, cond_false, true_and, and_true, or_true, true_or, true_implies, false_implies, not_true_eq_false, not_false_eq_true, List.length_cons, List.length_nil, Option.toList_some, Option.toList_none, List.cons_append, List.nil_append, ws_G_edges_0, ws_G_edges_1, ws_G_edges_2, ws_G_edges_3, ws_G_edges_4, ws_G_edges_5, ws_G_edges_6, ws_G_edges_9, ws_G_edges_12, ws_G_edges_13, ws_G_edges_14, ws_G_edges_15, ws_G_edges_18, ws_G_edges_19, ws_G_edges_20, ws_G_edges_23, ws_G_edges_26, ws_G_edges_27, ws_G_edges_28, ws_G_edges_29]
  exact l_G_edges hp hb hn hf ⟨rfl, rfl⟩ n 0 (by omega)
end BD
