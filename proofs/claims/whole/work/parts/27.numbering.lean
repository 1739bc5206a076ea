section BM
variable {h : tm_Hp} {p a b n m vs ps tr : Nat} {cc nb t : Nat → Nat} {V P T : Nat → Int32} {x0 : Value}
theorem c_U_bitsBehind {n k : Nat} (hn : n ≤ 7) (hk : k < n) : tm_C M_U_bitsBehind 0 0 [.int (nI n), .int (nI k)] h (fun z hh => z = .inl (some (.int (nI (gTr n - gTr (k + 1))))) ∧ hh = h) := by
  refine tm_C.by (L := [some (.int (nI n)), some (.int (nI k))]) rfl rfl rfl rfl rfl ?_
  apply tm_run [] 60
  simp only [↓reduceIte, tm_w_i, tm_w_0, Bool.false_eq_true, tm_gI_0, tm_gI_s, tm_gA_0, tm_gA_s, tm_fv_0, tm_fv_s, tm_p1_e, tm_pA_e, tm_pJ_e, tm_pV_i, tm_pV_r, tm_cI_e, tm_cZ_e, tm_cJ_e, tm_cQ_e, tm_cO_e, tm_rq_e, List.set_cons_zero, List.set_cons_succ, List.contains_cons, List.contains_nil, Nat.reduceBEq, Bool.or_false, Bool.false_or, Bool.or_true, Bool.true_or, Bool.or_self, cond_true, cond_false, true_and, and_true, or_true, true_or, true_implies, false_implies, not_true_eq_false, not_false_eq_true, List.length_cons, List.length_nil, Option.toList_some, Option.toList_none, List.cons_append, List.nil_append, ws_U_bitsBehind_0, ws_U_bitsBehind_1, ws_U_bitsBehind_2, ws_U_bitsBehind_3, ws_U_bitsBehind_4, ws_U_bitsBehind_5, ws_U_bitsBehind_6, ws_U_bitsBehind_7, ws_U_bitsBehind_8, ws_U_bitsBehind_9, ws_U_bitsBehind_10, ws_U_bitsBehind_11, ws_U_bitsBehind_12, ws_U_bitsBehind_13, ws_U_bitsBehind_14, ws_U_bitsBehind_15]
  refine ⟨by decide, by decide, ?_⟩
  have key : ∀ n, n ≤ 7 → ∀ k, k < n → nI n * (nI n - 1) / 2 - nI k * (nI k + 1) / 2 = nI (gTr n - gTr (k + 1)) := by decide +kernel
  rw [key n hn k hk]
theorem g_2or {x : Nat} (c : Bool) : 2 * x ||| (if c then 1 else 0) = 2 * x + (if c then 1 else 0) := by
  have := Nat.two_pow_add_eq_or_of_lt (i := 1) (b := if c then 1 else 0) (by cases c <;> decide) x
  rw [Nat.pow_one] at this
  exact this.symm
set_option maxRecDepth 20000 in
theorem l_U_bitsAt {Q : tm_O → tm_Hp → Prop} {k v : Nat} (hg : gG h p a b n cc nb) (hm : h m = tm_o 2 [x0, .ref vs, .ref ps, .ref tr]) (hT : h tr = tm_i 7 T) (ht : ∀ i, i < k → T i = nI (t i) ∧ t i < n) (hk : k ≤ n) (hv : v < n) (hQ : Q (.inl (some (.int (nI (gBt nb t v k))))) h) :
    ∀ l j, j + l = k → tm_T M_U_bitsAt 1 0 Q 0 6 [some (.ref m), some (.ref p), some (.int (nI k)), some (.int (nI v)), some (.int (nI (gBt nb t v j))), some (.int (nI j))] [] h := by
  obtain ⟨c, f, hp, ha, hb, hc, hf, hok⟩ := hg
  have hn := hok.1
  intro l
  induction l with
  | zero =>
    intro j hj
    obtain rfl : j = k := by omega
    apply tm_run [6] 80
    simp (disch := first | assumption | omega) only [↓reduceIte, tm_w_i, tm_w_0, Bool.false_eq_true, tm_gI_0, tm_gI_s, tm_gA_0, tm_gA_s, tm_fv_0, tm_fv_s, tm_p1_e, tm_pA_e, tm_pJ_e, tm_pV_i, tm_pV_r, tm_cI_e, tm_cZ_e, tm_cJ_e, tm_cQ_e, tm_cO_e, tm_rq_e, List.set_cons_zero, List.set_cons_succ, List.contains_cons, List.contains_nil, Nat.reduceBEq, Bool.or_false, Bool.false_or, Bool.or_true, Bool.true_or, Bool.or_self, cond_true, cond_false, true_and, and_true, or_true, true_or, true_implies, false_implies, not_true_eq_false, not_false_eq_true, List.length_cons, List.length_nil, Option.toList_some, Option.toList_none, List.cons_append, List.nil_append, ws_U_bitsAt_0, ws_U_bitsAt_1, ws_U_bitsAt_3, ws_U_bitsAt_4, ws_U_bitsAt_6, ws_U_bitsAt_8, ws_U_bitsAt_9, ws_U_bitsAt_12, ws_U_bitsAt_14, ws_U_bitsAt_15, ws_U_bitsAt_16, ws_U_bitsAt_17, ws_U_bitsAt_18, ws_U_bitsAt_19, ws_U_bitsAt_22, ws_U_bitsAt_24, ws_U_bitsAt_25, ws_U_bitsAt_28, ws_U_bitsAt_31, ws_U_bitsAt_32, ws_U_bitsAt_35, ws_U_bitsAt_36, ws_U_bitsAt_37, ws_U_bitsAt_39, ws_U_bitsAt_42, ws_U_bitsAt_45, ws_U_bitsAt_47, tm_up_s, tm_up_n, tm_up_up, nI_leI, nI_ltI, nI_eq, nI_cl, nI_in', ix_1shl, ix_or, ix_xor, nI_1, bI_0, bI_1, bI_F, pk_us, pk_un, Nat.le_refl]
    exact hQ
  | succ l ih =>
    intro j hj
    have hlt : ¬ k ≤ j := by omega
    obtain ⟨a1, a2⟩ := ht j (by omega)
    obtain ⟨a3, a4⟩ := hf v hv
    have a5 : gBt nb t v j < 128 := g2p (by omega) (gBt_lt nb t v j)
    have e0 : nI (gBt nb t v j) <<< ((1 : Int32) &&& 31) = nI (2 * gBt nb t v j) := by
      rw [i_1, ix_shl (by omega) (by omega), Nat.pow_one, Nat.mul_comm]
    have := ih (j + 1) (by omega)
    rw [gBt] at this
    apply tm_run [6] 80
    simp (disch := first | assumption | omega) only [↓reduceIte, tm_w_i, tm_w_0, Bool.false_eq_true, tm_gI_0, tm_gI_s, tm_gA_0, tm_gA_s, tm_fv_0, tm_fv_s, tm_p1_e, tm_pA_e, tm_pJ_e, tm_pV_i, tm_pV_r, tm_cI_e, tm_cZ_e, tm_cJ_e, tm_cQ_e, tm_cO_e, tm_rq_e, List.set_cons_zero, List.set_cons_succ, List.contains_cons, List.contains_nil, Nat.reduceBEq, Bool.or_false, Bool.false_or, Bool.or_true, Bool.true_or, Bool.or_self, cond_true, cond_false, true_and, and_true, or_true, true_or, true_implies, false_implies, not_true_eq_false, not_false_eq_true, List.length_cons, List.length_nil, Option.toList_some, Option.toList_none, List.cons_append, List.nil_append, ws_U_bitsAt_0, ws_U_bitsAt_1, ws_U_bitsAt_3, ws_U_bitsAt_4, ws_U_bitsAt_6, ws_U_bitsAt_8, ws_U_bitsAt_9, ws_U_bitsAt_12, ws_U_bitsAt_14, ws_U_bitsAt_15, ws_U_bitsAt_16, ws_U_bitsAt_17, ws_U_bitsAt_18, ws_U_bitsAt_19, ws_U_bitsAt_22, ws_U_bitsAt_24, ws_U_bitsAt_25, ws_U_bitsAt_28, ws_U_bitsAt_31, ws_U_bitsAt_32, ws_U_bitsAt_35, ws_U_bitsAt_36, ws_U_bitsAt_37, ws_U_bitsAt_39, ws_U_bitsAt_42, ws_U_bitsAt_45, ws_U_bitsAt_47, tm_up_s, tm_up_n, tm_up_up, nI_leI, nI_ltI, nI_eq, nI_cl, nI_in', ix_1shl, ix_or, ix_xor, nI_1, bI_0, bI_1, bI_F, pk_us, pk_un, hlt, hm, hT, a1, e0]
    refine kd_U_bitsAt_25 hp (Nat.le_of_ble_eq_true rfl) (by omega) (by omega) (c_G_linked hp hb (by omega) a3 a4 (by omega)) ?_
    cases b1 : (nb v).testBit (t j) with
    | false =>
      have e := g_2or (x := gBt nb t v j) false
      rw [b1, ← e] at this
      simp only [Bool.false_eq_true, if_false] at this
      apply tm_run [6] 80
      simp (disch := first | assumption | omega) only [↓reduceIte, tm_w_i, tm_w_0, Bool.false_eq_true, tm_gI_0, tm_gI_s, tm_gA_0, tm_gA_s, tm_fv_0, tm_fv_s, tm_p1_e, tm_pA_e, tm_pJ_e, tm_pV_i, tm_pV_r, tm_cI_e, tm_cZ_e, tm_cJ_e, tm_cQ_e, tm_cO_e, tm_rq_e, List.set_cons_zero, List.set_cons_succ, List.contains_cons, List.contains_nil, Nat.reduceBEq, Bool.or_false, Bool.false_or, Bool.or_true, Bool.true_or, Bool.or_self, cond_true, cond_false, true_and, and_true, or_true, true_or, true_implies, false_implies, not_true_eq_false, not_false_eq_true, List.length_cons, List.length_nil, Option.toList_some, Option.toList_none, List.cons_append, List.nil_append, ws_U_bitsAt_0, ws_U_bitsAt_1, ws_U_bitsAt_3, ws_U_bitsAt_4, ws_U_bitsAt_6, ws_U_bitsAt_8, ws_U_bitsAt_9, ws_U_bitsAt_12, ws_U_bitsAt_14, ws_U_bitsAt_15, ws_U_bitsAt_16, ws_U_bitsAt_17, ws_U_bitsAt_18, ws_U_bitsAt_19, ws_U_bitsAt_22, ws_U_bitsAt_24, ws_U_bitsAt_25, ws_U_bitsAt_28, ws_U_bitsAt_31, ws_U_bitsAt_32, ws_U_bitsAt_35, ws_U_bitsAt_36, ws_U_bitsAt_37, ws_U_bitsAt_39, ws_U_bitsAt_42, ws_U_bitsAt_45, ws_U_bitsAt_47, tm_up_s, tm_up_n, tm_up_up, nI_leI, nI_ltI, nI_eq, nI_cl, nI_in', ix_1shl, ix_or, ix_xor, nI_1, bI_0, bI_1, bI_F, pk_us, pk_un, bI_f, i_0]
      exact this
    | true =>
      have e := g_2or (x := gBt nb t v j) true
      rw [b1, ← e] at this
      simp only [if_true] at this
      have e8 : ¬ bI true = 0 := by decide
      apply tm_run [6] 80
      simp (disch := first | assumption | omega) only [↓reduceIte, tm_w_i, tm_w_0, Bool.false_eq_true, tm_gI_0, tm_gI_s, tm_gA_0, tm_gA_s, tm_fv_0, tm_fv_s, tm_p1_e, tm_pA_e, tm_pJ_e, tm_pV_i, tm_pV_r, tm_cI_e, tm_cZ_e, tm_cJ_e, tm_cQ_e, tm_cO_e, tm_rq_e, List.set_cons_zero, List.set_cons_succ, List.contains_cons, List.contains_nil, Nat.reduceBEq, Bool.or_false, Bool.false_or, Bool.or_true, Bool.true_or, Bool.or_self, cond_true, cond_false, true_and, and_true, or_true, true_or, true_implies, false_implies, not_true_eq_false, not_false_eq_true, List.length_cons, List.length_nil, Option.toList_some, Option.toList_none, List.cons_append, List.nil_append, ws_U_bitsAt_0, ws_U_bitsAt_1, ws_U_bitsAt_3, ws_U_bitsAt_4, ws_U_bitsAt_6, ws_U_bitsAt_8, ws_U_bitsAt_9, ws_U_bitsAt_12, ws_U_bitsAt_14, ws_U_bitsAt_15, ws_U_bitsAt_16, ws_U_bitsAt_17, ws_U_bitsAt_18, ws_U_bitsAt_19, ws_U_bitsAt_22, ws_U_bitsAt_24, ws_U_bitsAt_25, ws_U_bitsAt_28, ws_U_bitsAt_31, ws_U_bitsAt_32, ws_U_bitsAt_35, ws_U_bitsAt_36, ws_U_bitsAt_37, ws_U_bitsAt_39, ws_U_bitsAt_42, ws_U_bitsAt_45, ws_U_bitsAt_47, tm_up_s, tm_up_n, tm_up_up, nI_leI, nI_ltI, nI_eq, nI_cl, nI_in', ix_1shl, ix_or, ix_xor, nI_1, bI_0, bI_1, bI_F, pk_us, pk_un, e8, i_1, nI_add]
      exact this
set_option maxRecDepth 20000 in
theorem c_U_bitsAt {k v : Nat} (hg : gG h p a b n cc nb) (hm : h m = tm_o 2 [x0, .ref vs, .ref ps, .ref tr]) (hT : h tr = tm_i 7 T) (ht : ∀ i, i < k → T i = nI (t i) ∧ t i < n) (hk : k ≤ n) (hv : v < n) :
    tm_C M_U_bitsAt 1 0 [.ref m, .ref p, .int (nI k), .int (nI v)] h (fun z hh => z = .inl (some (.int (nI (gBt nb t v k)))) ∧ hh = h) := by
  refine tm_C.by (L := [some (.ref m), some (.ref p), some (.int (nI k)), some (.int (nI v)), none, none]) rfl rfl rfl rfl rfl ?_
  apply tm_run [6] 80
  simp (disch := first | assumption | omega) only [↓reduceIte, tm_w_i, tm_w_0, Bool.false_eq_true, tm_gI_0, tm_gI_s, tm_gA_0, tm_gA_s, tm_fv_0, tm_fv_s, tm_p1_e, tm_pA_e, tm_pJ_e, tm_pV_i, tm_pV_r, tm_cI_e, tm_cZ_e, tm_cJ_e, tm_cQ_e, tm_cO_e, tm_rq_e, List.set_cons_zero, List.set_cons_succ, List.contains_cons, List.contains_nil, Nat.reduceBEq, Bool.or_false, Bool.false_or, Bool.or_true, Bool.true_or, Bool.or_self, cond_true, cond_false, true_and, and_true, or_true, true_or, true_implies, false_implies, not_true_eq_false, not_false_eq_true, List.length_cons, List.length_nil, Option.toList_some, Option.toList_none, List.cons_append, List.nil_append, ws_U_bitsAt_0, ws_U_bitsAt_1, ws_U_bitsAt_3, ws_U_bitsAt_4, ws_U_bitsAt_6, ws_U_bitsAt_8, ws_U_bitsAt_9, ws_U_bitsAt_12, ws_U_bitsAt_14, ws_U_bitsAt_15, ws_U_bitsAt_16, ws_U_bitsAt_17, ws_U_bitsAt_18, ws_U_bitsAt_19, ws_U_bitsAt_22, ws_U_bitsAt_24, ws_U_bitsAt_25, ws_U_bitsAt_28, ws_U_bitsAt_31, ws_U_bitsAt_32, ws_U_bitsAt_35, ws_U_bitsAt_36, ws_U_bitsAt_37, ws_U_bitsAt_39, ws_U_bitsAt_42, ws_U_bitsAt_45, ws_U_bitsAt_47, tm_up_s, tm_up_n, tm_up_up, nI_leI, nI_ltI, nI_eq, nI_cl, nI_in', ix_1shl, ix_or, ix_xor, nI_1, bI_0, bI_1, bI_F, pk_us, pk_un]
  exact l_U_bitsAt hg hm hT ht hk hv ⟨rfl, rfl⟩ k 0 (by omega)
/-- the set of those left with the least colour -/
def gLc (n : Nat) (cc : Nat → Nat) (left s : Nat) : Prop := s < 128 ∧ ∀ v, v < n → (s.testBit v = true ↔ left.testBit v = true ∧ ∀ w, w < n → left.testBit w = true → cc v ≤ cc w)
set_option maxRecDepth 20000 in
theorem l_U_leastColoured {Q : tm_O → tm_Hp → Prop} {left : Nat} (hg : gG h p a b n cc nb) (hl : left < 128) (hne : ∃ v, v < n ∧ left.testBit v = true) (hQ : ∀ s, gLc n cc left s → Q (.inl (some (.int (nI s)))) h) :
    ∀ l x y, x + l = 4 → (∀ v, v < n → left.testBit v = true → x ≤ cc v) → tm_T M_U_leastColoured 1 0 Q 0 2 [some (.ref p), some (.int (nI left)), some (.int (nI x)), y] [] h := by
  obtain ⟨c, f, hp, ha, hb, hc, hf, hok⟩ := hg
  have hn := hok.1
  intro l
  induction l with
  | zero =>
    intro x y hx hi
    obtain ⟨v, h1, h2⟩ := hne
    have := hi v h1 h2
    have := (hok.2 v h1).1
    omega
  | succ l ih =>
    intro x y hx hi
    have hlt : ¬ 4 ≤ x := by omega
    apply tm_run [2] 80
    simp (disch := first | assumption | omega) only [↓reduceIte, tm_w_i, tm_w_0, Bool.false_eq_true, tm_gI_0, tm_gI_s, tm_gA_0, tm_gA_s, tm_fv_0, tm_fv_s, tm_p1_e, tm_pA_e, tm_pJ_e, tm_pV_i, tm_pV_r, tm_cI_e, tm_cZ_e, tm_cJ_e, tm_cQ_e, tm_cO_e, tm_rq_e, List.set_cons_zero, List.set_cons_succ, List.contains_cons, List.contains_nil, Nat.reduceBEq, Bool.or_false, Bool.false_or, Bool.or_true, Bool.true_or, Bool.or_self, cond_true, cond_false, true_and, and_true, or_true, true_or, true_implies, false_implies, not_true_eq_false, not_false_eq_true, List.length_cons, List.length_nil, Option.toList_some, Option.toList_none, List.cons_append, List.nil_append, ws_U_leastColoured_0, ws_U_leastColoured_1, ws_U_leastColoured_2, ws_U_leastColoured_3, ws_U_leastColoured_4, ws_U_leastColoured_7, ws_U_leastColoured_8, ws_U_leastColoured_9, ws_U_leastColoured_12, ws_U_leastColoured_13, ws_U_leastColoured_14, ws_U_leastColoured_15, ws_U_leastColoured_16, ws_U_leastColoured_19, ws_U_leastColoured_20, ws_U_leastColoured_21, ws_U_leastColoured_24, ws_U_leastColoured_27, ws_U_leastColoured_28, tm_up_s, tm_up_n, tm_up_up, nI_leI, nI_ltI, nI_eq, nI_cl, nI_in', ix_1shl, ix_or, ix_xor, nI_1, bI_0, bI_1, bI_F, pk_us, pk_un, i_4, hlt]
    refine kd_U_leastColoured_9 hp (Nat.le_of_ble_eq_true rfl) (by omega) (by omega) (c_G_coloured (cc := cc) (by omega) hp ha hn hc) ?_
    have l1 : gMk (fun i => cc i == x) n &&& left < 128 := g_and_lt (gMk_lt' hn)
    have e0 : nI (gMk (fun i => cc i == x) n &&& left) = 0 ↔ gMk (fun i => cc i == x) n &&& left = 0 := by
      rw [i_0, nI_eq (by omega) (by omega)]
    have bt : ∀ v, v < n → ((gMk (fun i => cc i == x) n &&& left).testBit v = true ↔ cc v = x ∧ left.testBit v = true) := by
      intro v hv
      rw [Nat.testBit_and, gMk_bit]
      simp [hv]
    apply tm_run [2] 80
    simp (disch := first | assumption | omega) only [↓reduceIte, tm_w_i, tm_w_0, Bool.false_eq_true, tm_gI_0, tm_gI_s, tm_gA_0, tm_gA_s, tm_fv_0, tm_fv_s, tm_p1_e, tm_pA_e, tm_pJ_e, tm_pV_i, tm_pV_r, tm_cI_e, tm_cZ_e, tm_cJ_e, tm_cQ_e, tm_cO_e, tm_rq_e, List.set_cons_zero, List.set_cons_succ, List.contains_cons, List.contains_nil, Nat.reduceBEq, Bool.or_false, Bool.false_or, Bool.or_true, Bool.true_or, Bool.or_self, cond_true, cond_false, true_and, and_true, or_true, true_or, true_implies, false_implies, not_true_eq_false, not_false_eq_true, List.length_cons, List.length_nil, Option.toList_some, Option.toList_none, List.cons_append, List.nil_append, ws_U_leastColoured_0, ws_U_leastColoured_1, ws_U_leastColoured_2, ws_U_leastColoured_3, ws_U_leastColoured_4, ws_U_leastColoured_7, ws_U_leastColoured_8, ws_U_leastColoured_9, ws_U_leastColoured_12, ws_U_leastColoured_13, ws_U_leastColoured_14, ws_U_leastColoured_15, ws_U_leastColoured_16, ws_U_leastColoured_19, ws_U_leastColoured_20, ws_U_leastColoured_21, ws_U_leastColoured_24, ws_U_leastColoured_27, ws_U_leastColoured_28, tm_up_s, tm_up_n, tm_up_up, nI_leI, nI_ltI, nI_eq, nI_cl, nI_in', ix_1shl, ix_or, ix_xor, nI_1, bI_0, bI_1, bI_F, pk_us, pk_un, ix_and, e0]
    refine ⟨fun e => ih (x + 1) _ (by omega) (fun v hv hb => ?_), fun e => hQ _ ⟨l1, fun v hv => ?_⟩⟩
    · have h1 := hi v hv hb
      have h2 : cc v ≠ x := fun q => by
        have := (bt v hv).mpr ⟨q, hb⟩
        rw [e] at this
        simp at this
      omega
    · rw [bt v hv]
      constructor
      · rintro ⟨h1, h2⟩
        exact ⟨h2, fun w hw hb => by rw [h1]; exact hi w hw hb⟩
      · rintro ⟨h1, h2⟩
        refine ⟨?_, h1⟩
        have h3 := hi v hv h1
        obtain ⟨w, w1, w2⟩ : ∃ w, w < n ∧ (gMk (fun i => cc i == x) n &&& left).testBit w = true := by
          apply Classical.byContradiction
          intro q
          apply e
          apply Nat.eq_of_testBit_eq
          intro i
          rw [Nat.zero_testBit]
          by_cases hi : i < n
          · exact Bool.eq_false_iff.mpr (fun z => q ⟨i, hi, z⟩)
          · rw [Nat.testBit_and, gMk_bit]
            simp [hi]
        obtain ⟨w3, w4⟩ := (bt w w1).mp w2
        have := h2 w w1 w4
        omega
set_option maxRecDepth 20000 in
theorem c_U_leastColoured {left : Nat} (hg : gG h p a b n cc nb) (hl : left < 128) (hne : ∃ v, v < n ∧ left.testBit v = true) :
    tm_C M_U_leastColoured 1 0 [.ref p, .int (nI left)] h (fun z hh => (∃ s, gLc n cc left s ∧ z = .inl (some (.int (nI s)))) ∧ hh = h) := by
  refine tm_C.by (L := [some (.ref p), some (.int (nI left)), none, none]) rfl rfl rfl rfl rfl ?_
  apply tm_run [2] 80
  simp (disch := first | assumption | omega) only [↓reduceIte, tm_w_i, tm_w_0, Bool.false_eq_true, tm_gI_0, tm_gI_s, tm_gA_0, tm_gA_s, tm_fv_0, tm_fv_s, tm_p1_e, tm_pA_e, tm_pJ_e, tm_pV_i, tm_pV_r, tm_cI_e, tm_cZ_e, tm_cJ_e, tm_cQ_e, tm_cO_e, tm_rq_e, List.set_cons_zero, List.set_cons_succ, List.contains_cons, List.contains_nil, Nat.reduceBEq, Bool.or_false, Bool.false_or, Bool.or_true, Bool.true_or, Bool.or_self, cond_true, cond_false, true_and, and_true, or_true, true_or, true_implies, false_implies, not_true_eq_false, not_false_eq_true, List.length_cons, List.length_nil, Option.toList_some, Option.toList_none, List.cons_append, List.nil_append, ws_U_leastColoured_0, ws_U_leastColoured_1, ws_U_leastColoured_2, ws_U_leastColoured_3, ws_U_leastColoured_4, ws_U_leastColoured_7, ws_U_leastColoured_8, ws_U_leastColoured_9, ws_U_leastColoured_12, ws_U_leastColoured_13, ws_U_leastColoured_14, ws_U_leastColoured_15, ws_U_leastColoured_16, ws_U_leastColoured_19, ws_U_leastColoured_20, ws_U_leastColoured_21, ws_U_leastColoured_24, ws_U_leastColoured_27, ws_U_leastColoured_28, tm_up_s, tm_up_n, tm_up_up, nI_leI, nI_ltI, nI_eq, nI_cl, nI_in', ix_1shl, ix_or, ix_xor, nI_1, bI_0, bI_1, bI_F, pk_us, pk_un]
  exact l_U_leastColoured hg hl hne (fun s hs => ⟨⟨s, hs, rfl⟩, rfl⟩) 4 0 _ (by omega) (fun _ _ _ => Nat.zero_le _)
/-- the least bits of a set -/
def gLb (n : Nat) (nb t : Nat → Nat) (k s x : Nat) : Prop := (∃ v, v < n ∧ s.testBit v = true ∧ gBt nb t v k = x) ∧ ∀ v, v < n → s.testBit v = true → x ≤ gBt nb t v k
set_option maxRecDepth 20000 in
theorem l_U_leastBits {Q : tm_O → tm_Hp → Prop} {k s : Nat} (hg : gG h p a b n cc nb) (hm : h m = tm_o 2 [x0, .ref vs, .ref ps, .ref tr]) (hT : h tr = tm_i 7 T) (ht : ∀ i, i < k → T i = nI (t i) ∧ t i < n) (hk : k ≤ n) (hs : s < 128) (hne : ∃ v, v < n ∧ s.testBit v = true) (hQ : ∀ x, gLb n nb t k s x → Q (.inl (some (.int (nI x)))) h) :
    ∀ l v x, v + l = n → x < 2 ^ 31 → (x = 2147483647 ∨ ∃ u, u < n ∧ s.testBit u = true ∧ gBt nb t u k = x) → (∀ u, u < v → s.testBit u = true → x ≤ gBt nb t u k) → tm_T M_U_leastBits 2 0 Q 0 7 [some (.ref m), some (.ref p), some (.int (nI k)), some (.int (nI s)), some (.int (nI x)), some (.int (nI v))] [] h := by
  have hg0 := hg
  obtain ⟨c, f, hp, ha, hb, hc, hf, hok⟩ := hg
  have hn := hok.1
  have bl : ∀ u, gBt nb t u k < 128 := fun u => g2p (by omega) (gBt_lt nb t u k)
  intro l
  induction l with
  | zero =>
    intro v x hv hx h1 h2
    obtain rfl : v = n := by omega
    have : gLb v nb t k s x := by
      refine ⟨?_, h2⟩
      rcases h1 with h1 | h1
      · obtain ⟨u, u1, u2⟩ := hne
        have := h2 u u1 u2
        have := bl u
        omega
      · exact h1
    apply tm_run [7] 80
    simp (disch := first | assumption | omega) only [↓reduceIte, tm_w_i, tm_w_0, Bool.false_eq_true, tm_gI_0, tm_gI_s, tm_gA_0, tm_gA_s, tm_fv_0, tm_fv_s, tm_p1_e, tm_pA_e, tm_pJ_e, tm_pV_i, tm_pV_r, tm_cI_e, tm_cZ_e, tm_cJ_e, tm_cQ_e, tm_cO_e, tm_rq_e, List.set_cons_zero, List.set_cons_succ, List.contains_cons, List.contains_nil, Nat.reduceBEq, Bool.or_false, Bool.false_or, Bool.or_true, Bool.true_or, Bool.or_self, cond_true, cond_false, true_and, and_true, or_true, true_or, true_implies, false_implies, not_true_eq_false, not_false_eq_true, List.length_cons, List.length_nil, Option.toList_some, Option.toList_none, List.cons_append, List.nil_append, ws_U_leastBits_0, ws_U_leastBits_2, ws_U_leastBits_4, ws_U_leastBits_5, ws_U_leastBits_7, ws_U_leastBits_9, ws_U_leastBits_10, ws_U_leastBits_13, ws_U_leastBits_16, ws_U_leastBits_17, ws_U_leastBits_19, ws_U_leastBits_22, ws_U_leastBits_25, ws_U_leastBits_27, ws_U_leastBits_28, ws_U_leastBits_29, ws_U_leastBits_30, ws_U_leastBits_32, ws_U_leastBits_35, ws_U_leastBits_38, ws_U_leastBits_40, ws_U_leastBits_43, ws_U_leastBits_46, ws_U_leastBits_48, tm_up_s, tm_up_n, tm_up_up, nI_leI, nI_ltI, nI_eq, nI_cl, nI_in', ix_1shl, ix_or, ix_xor, nI_1, bI_0, bI_1, bI_F, pk_us, pk_un, hp, Nat.le_refl]
    exact hQ x this
  | succ l ih =>
    intro v x hv hx h1 h2
    have hlt : ¬ n ≤ v := by omega
    apply tm_run [7] 80
    simp (disch := first | assumption | omega) only [↓reduceIte, tm_w_i, tm_w_0, Bool.false_eq_true, tm_gI_0, tm_gI_s, tm_gA_0, tm_gA_s, tm_fv_0, tm_fv_s, tm_p1_e, tm_pA_e, tm_pJ_e, tm_pV_i, tm_pV_r, tm_cI_e, tm_cZ_e, tm_cJ_e, tm_cQ_e, tm_cO_e, tm_rq_e, List.set_cons_zero, List.set_cons_succ, List.contains_cons, List.contains_nil, Nat.reduceBEq, Bool.or_false, Bool.false_or, Bool.or_true, Bool.true_or, Bool.or_self, cond_true, cond_false, true_and, and_true, or_true, true_or, true_implies, false_implies, not_true_eq_false, not_false_eq_true, List.length_cons, List.length_nil, Option.toList_some, Option.toList_none, List.cons_append, List.nil_append, ws_U_leastBits_0, ws_U_leastBits_2, ws_U_leastBits_4, ws_U_leastBits_5, ws_U_leastBits_7, ws_U_leastBits_9, ws_U_leastBits_10, ws_U_leastBits_13, ws_U_leastBits_16, ws_U_leastBits_17, ws_U_leastBits_19, ws_U_leastBits_22, ws_U_leastBits_25, ws_U_leastBits_27, ws_U_leastBits_28, ws_U_leastBits_29, ws_U_leastBits_30, ws_U_leastBits_32, ws_U_leastBits_35, ws_U_leastBits_38, ws_U_leastBits_40, ws_U_leastBits_43, ws_U_leastBits_46, ws_U_leastBits_48, tm_up_s, tm_up_n, tm_up_up, nI_leI, nI_ltI, nI_eq, nI_cl, nI_in', ix_1shl, ix_or, ix_xor, nI_1, bI_0, bI_1, bI_F, pk_us, pk_un, hp, hlt]
    refine kd_U_leastBits_19 (Nat.le_of_ble_eq_true rfl) (by omega) (by omega) (c_N_contains (by omega) (by omega)) ?_
    cases b1 : s.testBit v with
    | false =>
      apply tm_run [7] 80
      simp (disch := first | assumption | omega) only [↓reduceIte, tm_w_i, tm_w_0, Bool.false_eq_true, tm_gI_0, tm_gI_s, tm_gA_0, tm_gA_s, tm_fv_0, tm_fv_s, tm_p1_e, tm_pA_e, tm_pJ_e, tm_pV_i, tm_pV_r, tm_cI_e, tm_cZ_e, tm_cJ_e, tm_cQ_e, tm_cO_e, tm_rq_e, List.set_cons_zero, List.set_cons_succ, List.contains_cons, List.contains_nil, Nat.reduceBEq, Bool.or_false, Bool.false_or, Bool.or_true, Bool.true_or, Bool.or_self, cond_true, cond_false, true_and, and_true, or_true, true_or, true_implies, false_implies, not_true_eq_false, not_false_eq_true, List.length_cons, List.length_nil, Option.toList_some, Option.toList_none, List.cons_append, List.nil_append, ws_U_leastBits_0, ws_U_leastBits_2, ws_U_leastBits_4, ws_U_leastBits_5, ws_U_leastBits_7, ws_U_leastBits_9, ws_U_leastBits_10, ws_U_leastBits_13, ws_U_leastBits_16, ws_U_leastBits_17, ws_U_leastBits_19, ws_U_leastBits_22, ws_U_leastBits_25, ws_U_leastBits_27, ws_U_leastBits_28, ws_U_leastBits_29, ws_U_leastBits_30, ws_U_leastBits_32, ws_U_leastBits_35, ws_U_leastBits_38, ws_U_leastBits_40, ws_U_leastBits_43, ws_U_leastBits_46, ws_U_leastBits_48, tm_up_s, tm_up_n, tm_up_up, nI_leI, nI_ltI, nI_eq, nI_cl, nI_in', ix_1shl, ix_or, ix_xor, nI_1, bI_0, bI_1, bI_F, pk_us, pk_un, bI_f]
      refine ih (v + 1) x (by omega) hx h1 (fun u hu hb => ?_)
      by_cases e : u = v
      · rw [e, b1] at hb; cases hb
      · exact h2 u (by omega) hb
    | true =>
      have e8 : ¬ bI true = 0 := by decide
      have := bl v
      apply tm_run [7] 80
      simp (disch := first | assumption | omega) only [↓reduceIte, tm_w_i, tm_w_0, Bool.false_eq_true, tm_gI_0, tm_gI_s, tm_gA_0, tm_gA_s, tm_fv_0, tm_fv_s, tm_p1_e, tm_pA_e, tm_pJ_e, tm_pV_i, tm_pV_r, tm_cI_e, tm_cZ_e, tm_cJ_e, tm_cQ_e, tm_cO_e, tm_rq_e, List.set_cons_zero, List.set_cons_succ, List.contains_cons, List.contains_nil, Nat.reduceBEq, Bool.or_false, Bool.false_or, Bool.or_true, Bool.true_or, Bool.or_self, cond_true, cond_false, true_and, and_true, or_true, true_or, true_implies, false_implies, not_true_eq_false, not_false_eq_true, List.length_cons, List.length_nil, Option.toList_some, Option.toList_none, List.cons_append, List.nil_append, ws_U_leastBits_0, ws_U_leastBits_2, ws_U_leastBits_4, ws_U_leastBits_5, ws_U_leastBits_7, ws_U_leastBits_9, ws_U_leastBits_10, ws_U_leastBits_13, ws_U_leastBits_16, ws_U_leastBits_17, ws_U_leastBits_19, ws_U_leastBits_22, ws_U_leastBits_25, ws_U_leastBits_27, ws_U_leastBits_28, ws_U_leastBits_29, ws_U_leastBits_30, ws_U_leastBits_32, ws_U_leastBits_35, ws_U_leastBits_38, ws_U_leastBits_40, ws_U_leastBits_43, ws_U_leastBits_46, ws_U_leastBits_48, tm_up_s, tm_up_n, tm_up_up, nI_leI, nI_ltI, nI_eq, nI_cl, nI_in', ix_1shl, ix_or, ix_xor, nI_1, bI_0, bI_1, bI_F, pk_us, pk_un, e8]
      refine kd_U_leastBits_32 hm (Nat.le_of_ble_eq_true rfl) (by omega) (by omega) (c_U_bitsAt hg0 hm hT ht hk (by omega)) ?_
      apply tm_run [7] 80
      simp (disch := first | assumption | omega) only [↓reduceIte, tm_w_i, tm_w_0, Bool.false_eq_true, tm_gI_0, tm_gI_s, tm_gA_0, tm_gA_s, tm_fv_0, tm_fv_s, tm_p1_e, tm_pA_e, tm_pJ_e, tm_pV_i, tm_pV_r, tm_cI_e, tm_cZ_e, tm_cJ_e, tm_cQ_e, tm_cO_e, tm_rq_e, List.set_cons_zero, List.set_cons_succ, List.contains_cons, List.contains_nil, Nat.reduceBEq, Bool.or_false, Bool.false_or, Bool.or_true, Bool.true_or, Bool.or_self, cond_true, cond_false, true_and, and_true, or_true, true_or, true_implies, false_implies, not_true_eq_false, not_false_eq_true, List.length_cons, List.length_nil, Option.toList_some, Option.toList_none, List.cons_append, List.nil_append, ws_U_leastBits_0, ws_U_leastBits_2, ws_U_leastBits_4, ws_U_leastBits_5, ws_U_leastBits_7, ws_U_leastBits_9, ws_U_leastBits_10, ws_U_leastBits_13, ws_U_leastBits_16, ws_U_leastBits_17, ws_U_leastBits_19, ws_U_leastBits_22, ws_U_leastBits_25, ws_U_leastBits_27, ws_U_leastBits_28, ws_U_leastBits_29, ws_U_leastBits_30, ws_U_leastBits_32, ws_U_leastBits_35, ws_U_leastBits_38, ws_U_leastBits_40, ws_U_leastBits_43, ws_U_leastBits_46, ws_U_leastBits_48, tm_up_s, tm_up_n, tm_up_up, nI_leI, nI_ltI, nI_eq, nI_cl, nI_in', ix_1shl, ix_or, ix_xor, nI_1, bI_0, bI_1, bI_F, pk_us, pk_un]
      refine kd_U_leastBits_35 (Nat.le_of_ble_eq_true rfl) (by omega) (by omega) c_H_min ?_
      apply tm_run [7] 80
      simp (disch := first | assumption | omega) only [↓reduceIte, tm_w_i, tm_w_0, Bool.false_eq_true, tm_gI_0, tm_gI_s, tm_gA_0, tm_gA_s, tm_fv_0, tm_fv_s, tm_p1_e, tm_pA_e, tm_pJ_e, tm_pV_i, tm_pV_r, tm_cI_e, tm_cZ_e, tm_cJ_e, tm_cQ_e, tm_cO_e, tm_rq_e, List.set_cons_zero, List.set_cons_succ, List.contains_cons, List.contains_nil, Nat.reduceBEq, Bool.or_false, Bool.false_or, Bool.or_true, Bool.true_or, Bool.or_self, cond_true, cond_false, true_and, and_true, or_true, true_or, true_implies, false_implies, not_true_eq_false, not_false_eq_true, List.length_cons, List.length_nil, Option.toList_some, Option.toList_none, List.cons_append, List.nil_append, ws_U_leastBits_0, ws_U_leastBits_2, ws_U_leastBits_4, ws_U_leastBits_5, ws_U_leastBits_7, ws_U_leastBits_9, ws_U_leastBits_10, ws_U_leastBits_13, ws_U_leastBits_16, ws_U_leastBits_17, ws_U_leastBits_19, ws_U_leastBits_22, ws_U_leastBits_25, ws_U_leastBits_27, ws_U_leastBits_28, ws_U_leastBits_29, ws_U_leastBits_30, ws_U_leastBits_32, ws_U_leastBits_35, ws_U_leastBits_38, ws_U_leastBits_40, ws_U_leastBits_43, ws_U_leastBits_46, ws_U_leastBits_48, tm_up_s, tm_up_n, tm_up_up, nI_leI, nI_ltI, nI_eq, nI_cl, nI_in', ix_1shl, ix_or, ix_xor, nI_1, bI_0, bI_1, bI_F, pk_us, pk_un]
      by_cases e : gBt nb t v k < x
      · rw [if_pos e]
        refine ih (v + 1) _ (by omega) (by omega) (Or.inr ⟨v, by omega, b1, rfl⟩) (fun u hu hb => ?_)
        by_cases e2 : u = v
        · rw [e2]; exact Nat.le_refl _
        · have := h2 u (by omega) hb
          omega
      · rw [if_neg e]
        refine ih (v + 1) _ (by omega) hx h1 (fun u hu hb => ?_)
        by_cases e2 : u = v
        · rw [e2]; omega
        · exact h2 u (by omega) hb
set_option maxRecDepth 20000 in
theorem c_U_leastBits {k s : Nat} (hg : gG h p a b n cc nb) (hm : h m = tm_o 2 [x0, .ref vs, .ref ps, .ref tr]) (hT : h tr = tm_i 7 T) (ht : ∀ i, i < k → T i = nI (t i) ∧ t i < n) (hk : k ≤ n) (hs : s < 128) (hne : ∃ v, v < n ∧ s.testBit v = true) :
    tm_C M_U_leastBits 2 0 [.ref m, .ref p, .int (nI k), .int (nI s)] h (fun z hh => (∃ x, gLb n nb t k s x ∧ z = .inl (some (.int (nI x)))) ∧ hh = h) := by
  refine tm_C.by (L := [some (.ref m), some (.ref p), some (.int (nI k)), some (.int (nI s)), none, none]) rfl rfl rfl rfl rfl ?_
  have e0 : (2147483647 : Int32) = nI 2147483647 := by decide
  apply tm_run [7] 80
  simp (disch := first | assumption | omega) only [↓reduceIte, tm_w_i, tm_w_0, Bool.false_eq_true, tm_gI_0, tm_gI_s, tm_gA_0, tm_gA_s, tm_fv_0, tm_fv_s, tm_p1_e, tm_pA_e, tm_pJ_e, tm_pV_i, tm_pV_r, tm_cI_e, tm_cZ_e, tm_cJ_e, tm_cQ_e, tm_cO_e, tm_rq_e, List.set_cons_zero, List.set_cons_succ, List.contains_cons, List.contains_nil, Nat.reduceBEq, Bool.or_false, Bool.false_or, Bool.or_true, Bool.true_or, Bool.or_self, cond_true, cond_false, true_and, and_true, or_true, true_or, true_implies, false_implies, not_true_eq_false, not_false_eq_true, List.length_cons, List.length_nil, Option.toList_some, Option.toList_none, List.cons_append, List.nil_append, ws_U_leastBits_0, ws_U_leastBits_2, ws_U_leastBits_4, ws_U_leastBits_5, ws_U_leastBits_7, ws_U_leastBits_9, ws_U_leastBits_10, ws_U_leastBits_13, ws_U_leastBits_16, ws_U_leastBits_17, ws_U_leastBits_19, ws_U_leastBits_22, ws_U_leastBits_25, ws_U_leastBits_27, ws_U_leastBits_28, ws_U_leastBits_29, ws_U_leastBits_30, ws_U_leastBits_32, ws_U_leastBits_35, ws_U_leastBits_38, ws_U_leastBits_40, ws_U_leastBits_43, ws_U_leastBits_46, ws_U_leastBits_48, tm_up_s, tm_up_n, tm_up_up, nI_leI, nI_ltI, nI_eq, nI_cl, nI_in', ix_1shl, ix_or, ix_xor, nI_1, bI_0, bI_1, bI_F, pk_us, pk_un, e0]
  exact l_U_leastBits hg hm hT ht hk hs hne (fun x hx => ⟨⟨x, hx, rfl⟩, rfl⟩) n 0 2147483647 (by omega) (by decide) (Or.inl rfl) (fun u hu => absurd hu (Nat.not_lt_zero u))
/-- there is a lesser twin in the set -/
def gTw (nb : Nat → Nat) (s v : Nat) : Prop := ∃ u, u < v ∧ s.testBit u = true ∧ ∀ i, i < 7 → i ≠ u → i ≠ v → (nb u).testBit i = (nb v).testBit i
set_option maxRecDepth 20000 in
theorem l_U_hasLesserTwin {Q : tm_O → tm_Hp → Prop} {v s : Nat} (hg : gG h p a b n cc nb) (hv : v < n) (hs : s < 128) (hQ : ∀ r : Bool, (r = true ↔ gTw nb s v) → Q (.inl (some (.int (bI r)))) h) :
    ∀ l u, u + l = v → (∀ w, w < u → s.testBit w = true → ¬ ∀ i, i < 7 → i ≠ w → i ≠ v → (nb w).testBit i = (nb v).testBit i) → tm_T M_U_hasLesserTwin 1 0 Q 0 2 [some (.ref p), some (.int (nI v)), some (.int (nI s)), some (.int (nI u))] [] h := by
  obtain ⟨c, f, hp, ha, hb, hc, hf, hok⟩ := hg
  have hn := hok.1
  intro l
  induction l with
  | zero =>
    intro u hu hi
    obtain rfl : u = v := by omega
    apply tm_run [2] 80
    simp (disch := first | assumption | omega) only [↓reduceIte, tm_w_i, tm_w_0, Bool.false_eq_true, tm_gI_0, tm_gI_s, tm_gA_0, tm_gA_s, tm_fv_0, tm_fv_s, tm_p1_e, tm_pA_e, tm_pJ_e, tm_pV_i, tm_pV_r, tm_cI_e, tm_cZ_e, tm_cJ_e, tm_cQ_e, tm_cO_e, tm_rq_e, List.set_cons_zero, List.set_cons_succ, List.contains_cons, List.contains_nil, Nat.reduceBEq, Bool.or_false, Bool.false_or, Bool.or_true, Bool.true_or, Bool.or_self, cond_true, cond_false, true_and, and_true, or_true, true_or, true_implies, false_implies, not_true_eq_false, not_false_eq_true, List.length_cons, List.length_nil, Option.toList_some, Option.toList_none, List.cons_append, List.nil_append, ws_U_hasLesserTwin_0, ws_U_hasLesserTwin_1, ws_U_hasLesserTwin_2, ws_U_hasLesserTwin_3, ws_U_hasLesserTwin_4, ws_U_hasLesserTwin_7, ws_U_hasLesserTwin_8, ws_U_hasLesserTwin_9, ws_U_hasLesserTwin_12, ws_U_hasLesserTwin_15, ws_U_hasLesserTwin_16, ws_U_hasLesserTwin_17, ws_U_hasLesserTwin_18, ws_U_hasLesserTwin_21, ws_U_hasLesserTwin_24, ws_U_hasLesserTwin_25, ws_U_hasLesserTwin_26, ws_U_hasLesserTwin_29, ws_U_hasLesserTwin_32, ws_U_hasLesserTwin_33, tm_up_s, tm_up_n, tm_up_up, nI_leI, nI_ltI, nI_eq, nI_cl, nI_in', ix_1shl, ix_or, ix_xor, nI_1, bI_0, bI_1, bI_F, pk_us, pk_un, Nat.le_refl]
    exact hQ false ⟨(fun q => nomatch q), fun ⟨w, w1, w2, w3⟩ => absurd w3 (hi w w1 w2)⟩
  | succ l ih =>
    intro u hu hi
    have hlt : ¬ v ≤ u := by omega
    apply tm_run [2] 80
    simp (disch := first | assumption | omega) only [↓reduceIte, tm_w_i, tm_w_0, Bool.false_eq_true, tm_gI_0, tm_gI_s, tm_gA_0, tm_gA_s, tm_fv_0, tm_fv_s, tm_p1_e, tm_pA_e, tm_pJ_e, tm_pV_i, tm_pV_r, tm_cI_e, tm_cZ_e, tm_cJ_e, tm_cQ_e, tm_cO_e, tm_rq_e, List.set_cons_zero, List.set_cons_succ, List.contains_cons, List.contains_nil, Nat.reduceBEq, Bool.or_false, Bool.false_or, Bool.or_true, Bool.true_or, Bool.or_self, cond_true, cond_false, true_and, and_true, or_true, true_or, true_implies, false_implies, not_true_eq_false, not_false_eq_true, List.length_cons, List.length_nil, Option.toList_some, Option.toList_none, List.cons_append, List.nil_append, ws_U_hasLesserTwin_0, ws_U_hasLesserTwin_1, ws_U_hasLesserTwin_2, ws_U_hasLesserTwin_3, ws_U_hasLesserTwin_4, ws_U_hasLesserTwin_7, ws_U_hasLesserTwin_8, ws_U_hasLesserTwin_9, ws_U_hasLesserTwin_12, ws_U_hasLesserTwin_15, ws_U_hasLesserTwin_16, ws_U_hasLesserTwin_17, ws_U_hasLesserTwin_18, ws_U_hasLesserTwin_21, ws_U_hasLesserTwin_24, ws_U_hasLesserTwin_25, ws_U_hasLesserTwin_26, ws_U_hasLesserTwin_29, ws_U_hasLesserTwin_32, ws_U_hasLesserTwin_33, tm_up_s, tm_up_n, tm_up_up, nI_leI, nI_ltI, nI_eq, nI_cl, nI_in', ix_1shl, ix_or, ix_xor, nI_1, bI_0, bI_1, bI_F, pk_us, pk_un, hlt]
    refine kd_U_hasLesserTwin_9 (Nat.le_of_ble_eq_true rfl) (by omega) (by omega) (c_N_contains (by omega) (by omega)) ?_
    cases b1 : s.testBit u with
    | false =>
      apply tm_run [2] 80
      simp (disch := first | assumption | omega) only [↓reduceIte, tm_w_i, tm_w_0, Bool.false_eq_true, tm_gI_0, tm_gI_s, tm_gA_0, tm_gA_s, tm_fv_0, tm_fv_s, tm_p1_e, tm_pA_e, tm_pJ_e, tm_pV_i, tm_pV_r, tm_cI_e, tm_cZ_e, tm_cJ_e, tm_cQ_e, tm_cO_e, tm_rq_e, List.set_cons_zero, List.set_cons_succ, List.contains_cons, List.contains_nil, Nat.reduceBEq, Bool.or_false, Bool.false_or, Bool.or_true, Bool.true_or, Bool.or_self, cond_true, cond_false, true_and, and_true, or_true, true_or, true_implies, false_implies, not_true_eq_false, not_false_eq_true, List.length_cons, List.length_nil, Option.toList_some, Option.toList_none, List.cons_append, List.nil_append, ws_U_hasLesserTwin_0, ws_U_hasLesserTwin_1, ws_U_hasLesserTwin_2, ws_U_hasLesserTwin_3, ws_U_hasLesserTwin_4, ws_U_hasLesserTwin_7, ws_U_hasLesserTwin_8, ws_U_hasLesserTwin_9, ws_U_hasLesserTwin_12, ws_U_hasLesserTwin_15, ws_U_hasLesserTwin_16, ws_U_hasLesserTwin_17, ws_U_hasLesserTwin_18, ws_U_hasLesserTwin_21, ws_U_hasLesserTwin_24, ws_U_hasLesserTwin_25, ws_U_hasLesserTwin_26, ws_U_hasLesserTwin_29, ws_U_hasLesserTwin_32, ws_U_hasLesserTwin_33, tm_up_s, tm_up_n, tm_up_up, nI_leI, nI_ltI, nI_eq, nI_cl, nI_in', ix_1shl, ix_or, ix_xor, nI_1, bI_0, bI_1, bI_F, pk_us, pk_un, bI_f]
      refine ih (u + 1) (by omega) (fun w hw hb => ?_)
      by_cases e : w = u
      · rw [e, b1] at hb; cases hb
      · exact hi w (by omega) hb
    | true =>
      have e8 : ¬ bI true = 0 := by decide
      obtain ⟨a1, a2⟩ := hf u (by omega)
      obtain ⟨a3, a4⟩ := hf v hv
      apply tm_run [2] 80
      simp (disch := first | assumption | omega) only [↓reduceIte, tm_w_i, tm_w_0, Bool.false_eq_true, tm_gI_0, tm_gI_s, tm_gA_0, tm_gA_s, tm_fv_0, tm_fv_s, tm_p1_e, tm_pA_e, tm_pJ_e, tm_pV_i, tm_pV_r, tm_cI_e, tm_cZ_e, tm_cJ_e, tm_cQ_e, tm_cO_e, tm_rq_e, List.set_cons_zero, List.set_cons_succ, List.contains_cons, List.contains_nil, Nat.reduceBEq, Bool.or_false, Bool.false_or, Bool.or_true, Bool.true_or, Bool.or_self, cond_true, cond_false, true_and, and_true, or_true, true_or, true_implies, false_implies, not_true_eq_false, not_false_eq_true, List.length_cons, List.length_nil, Option.toList_some, Option.toList_none, List.cons_append, List.nil_append, ws_U_hasLesserTwin_0, ws_U_hasLesserTwin_1, ws_U_hasLesserTwin_2, ws_U_hasLesserTwin_3, ws_U_hasLesserTwin_4, ws_U_hasLesserTwin_7, ws_U_hasLesserTwin_8, ws_U_hasLesserTwin_9, ws_U_hasLesserTwin_12, ws_U_hasLesserTwin_15, ws_U_hasLesserTwin_16, ws_U_hasLesserTwin_17, ws_U_hasLesserTwin_18, ws_U_hasLesserTwin_21, ws_U_hasLesserTwin_24, ws_U_hasLesserTwin_25, ws_U_hasLesserTwin_26, ws_U_hasLesserTwin_29, ws_U_hasLesserTwin_32, ws_U_hasLesserTwin_33, tm_up_s, tm_up_n, tm_up_up, nI_leI, nI_ltI, nI_eq, nI_cl, nI_in', ix_1shl, ix_or, ix_xor, nI_1, bI_0, bI_1, bI_F, pk_us, pk_un, e8]
      refine kc_U_hasLesserTwin_18 hp (Nat.le_of_ble_eq_true rfl) (by omega) (by omega) (c_G_twins hp hb (by omega) (by omega) a1 a2 a3 a4) ?_ (fun k h1 ⟨⟨_, _, e⟩, _⟩ => nomatch e)
      rintro v0 hh ⟨⟨r, e1, e2⟩, e3⟩
      cases e2; cases e3
      cases r with
      | false =>
        apply tm_run [2] 80
        simp (disch := first | assumption | omega) only [↓reduceIte, tm_w_i, tm_w_0, Bool.false_eq_true, tm_gI_0, tm_gI_s, tm_gA_0, tm_gA_s, tm_fv_0, tm_fv_s, tm_p1_e, tm_pA_e, tm_pJ_e, tm_pV_i, tm_pV_r, tm_cI_e, tm_cZ_e, tm_cJ_e, tm_cQ_e, tm_cO_e, tm_rq_e, List.set_cons_zero, List.set_cons_succ, List.contains_cons, List.contains_nil, Nat.reduceBEq, Bool.or_false, Bool.false_or, Bool.or_true, Bool.true_or, Bool.or_self, cond_true, cond_false, true_and, and_true, or_true, true_or, true_implies, false_implies, not_true_eq_false, not_false_eq_true, List.length_cons, List.length_nil, Option.toList_some, Option.toList_none, List.cons_append, List.nil_append, ws_U_hasLesserTwin_0, ws_U_hasLesserTwin_1, ws_U_hasLesserTwin_2, ws_U_hasLesserTwin_3, ws_U_hasLesserTwin_4, ws_U_hasLesserTwin_7, ws_U_hasLesserTwin_8, ws_U_hasLesserTwin_9, ws_U_hasLesserTwin_12, ws_U_hasLesserTwin_15, ws_U_hasLesserTwin_16, ws_U_hasLesserTwin_17, ws_U_hasLesserTwin_18, ws_U_hasLesserTwin_21, ws_U_hasLesserTwin_24, ws_U_hasLesserTwin_25, ws_U_hasLesserTwin_26, ws_U_hasLesserTwin_29, ws_U_hasLesserTwin_32, ws_U_hasLesserTwin_33, tm_up_s, tm_up_n, tm_up_up, nI_leI, nI_ltI, nI_eq, nI_cl, nI_in', ix_1shl, ix_or, ix_xor, nI_1, bI_0, bI_1, bI_F, pk_us, pk_un, bI_f]
        refine ih (u + 1) (by omega) (fun w hw hb => ?_)
        by_cases e : w = u
        · rw [e]; exact fun q => absurd (e1.mpr q) (by decide)
        · exact hi w (by omega) hb
      | true =>
        apply tm_run [2] 80
        simp (disch := first | assumption | omega) only [↓reduceIte, tm_w_i, tm_w_0, Bool.false_eq_true, tm_gI_0, tm_gI_s, tm_gA_0, tm_gA_s, tm_fv_0, tm_fv_s, tm_p1_e, tm_pA_e, tm_pJ_e, tm_pV_i, tm_pV_r, tm_cI_e, tm_cZ_e, tm_cJ_e, tm_cQ_e, tm_cO_e, tm_rq_e, List.set_cons_zero, List.set_cons_succ, List.contains_cons, List.contains_nil, Nat.reduceBEq, Bool.or_false, Bool.false_or, Bool.or_true, Bool.true_or, Bool.or_self, cond_true, cond_false, true_and, and_true, or_true, true_or, true_implies, false_implies, not_true_eq_false, not_false_eq_true, List.length_cons, List.length_nil, Option.toList_some, Option.toList_none, List.cons_append, List.nil_append, ws_U_hasLesserTwin_0, ws_U_hasLesserTwin_1, ws_U_hasLesserTwin_2, ws_U_hasLesserTwin_3, ws_U_hasLesserTwin_4, ws_U_hasLesserTwin_7, ws_U_hasLesserTwin_8, ws_U_hasLesserTwin_9, ws_U_hasLesserTwin_12, ws_U_hasLesserTwin_15, ws_U_hasLesserTwin_16, ws_U_hasLesserTwin_17, ws_U_hasLesserTwin_18, ws_U_hasLesserTwin_21, ws_U_hasLesserTwin_24, ws_U_hasLesserTwin_25, ws_U_hasLesserTwin_26, ws_U_hasLesserTwin_29, ws_U_hasLesserTwin_32, ws_U_hasLesserTwin_33, tm_up_s, tm_up_n, tm_up_up, nI_leI, nI_ltI, nI_eq, nI_cl, nI_in', ix_1shl, ix_or, ix_xor, nI_1, bI_0, bI_1, bI_F, pk_us, pk_un, e8]
        exact hQ true ⟨fun _ => ⟨u, by omega, b1, e1.mp rfl⟩, fun _ => rfl⟩
set_option maxRecDepth 20000 in
theorem c_U_hasLesserTwin {v s : Nat} (hg : gG h p a b n cc nb) (hv : v < n) (hs : s < 128) :
    tm_C M_U_hasLesserTwin 1 0 [.ref p, .int (nI v), .int (nI s)] h (fun z hh => (∃ r : Bool, (r = true ↔ gTw nb s v) ∧ z = .inl (some (.int (bI r)))) ∧ hh = h) := by
  refine tm_C.by (L := [some (.ref p), some (.int (nI v)), some (.int (nI s)), none]) rfl rfl rfl rfl rfl ?_
  apply tm_run [2] 80
  simp (disch := first | assumption | omega) only [↓reduceIte, tm_w_i, tm_w_0, Bool.false_eq_true, tm_gI_0, tm_gI_s, tm_gA_0, tm_gA_s, tm_fv_0, tm_fv_s, tm_p1_e, tm_pA_e, tm_pJ_e, tm_pV_i, tm_pV_r, tm_cI_e, tm_cZ_e, tm_cJ_e, tm_cQ_e, tm_cO_e, tm_rq_e, List.set_cons_zero, List.set_cons_succ, List.contains_cons, List.contains_nil, Nat.reduceBEq, Bool.or_false, Bool.false_or, Bool.or_true, Bool.true_or, Bool.or_self, cond_true, cond_false, true_and, and_true, or_true, true_or, true_implies, false_implies, not_true_eq_false, not_false_eq_true, List.length_cons, List.length_nil, Option.toList_some, Option.toList_none, List.cons_append, List.nil_append, ws_U_hasLesserTwin_0, ws_U_hasLesserTwin_1, ws_U_hasLesserTwin_2, ws_U_hasLesserTwin_3, ws_U_hasLesserTwin_4, ws_U_hasLesserTwin_7, ws_U_hasLesserTwin_8, ws_U_hasLesserTwin_9, ws_U_hasLesserTwin_12, ws_U_hasLesserTwin_15, ws_U_hasLesserTwin_16, ws_U_hasLesserTwin_17, ws_U_hasLesserTwin_18, ws_U_hasLesserTwin_21, ws_U_hasLesserTwin_24, ws_U_hasLesserTwin_25, ws_U_hasLesserTwin_26, ws_U_hasLesserTwin_29, ws_U_hasLesserTwin_32, ws_U_hasLesserTwin_33, tm_up_s, tm_up_n, tm_up_up, nI_leI, nI_ltI, nI_eq, nI_cl, nI_in', ix_1shl, ix_or, ix_xor, nI_1, bI_0, bI_1, bI_F, pk_us, pk_un]
  exact l_U_hasLesserTwin hg hv hs (fun r hr => ⟨⟨r, hr, rfl⟩, rfl⟩) v 0 (by omega) (fun w hw => absurd hw (Nat.not_lt_zero w))
theorem tw_ac1 : Jvm.Cond.methodLink "GraphNamer$Numbering" 68 arraycopyName ∈ tm_ws := List.mem_filter.mpr ⟨List.mem_of_getElem? (i := 385) (by decide +kernel), by decide +kernel⟩
theorem tw_ac2 : Jvm.Cond.static arraycopyName ∈ tm_ws := List.mem_filter.mpr ⟨List.mem_of_getElem? (i := 386) (by decide +kernel), by decide +kernel⟩
theorem tw_ac3 : Jvm.Cond.native arraycopyName ∈ tm_ws := List.mem_filter.mpr ⟨List.mem_of_getElem? (i := 387) (by decide +kernel), by decide +kernel⟩
theorem tw_ac4 : Jvm.Cond.initialized "java/lang/System" ∈ tm_ws := List.mem_filter.mpr ⟨List.mem_of_getElem? (i := 50) (by decide +kernel), by decide +kernel⟩
set_option maxRecDepth 20000 in
theorem c_U_keepIfLess {c0 w : Nat} (hm : h m = tm_o 2 [.int (nI w), .ref vs, .ref ps, .ref tr]) (hV : h vs = tm_i 7 V) (hT : h tr = tm_i 7 T) (hK1 : vs < tm_K) (hK2 : tr < tm_K) (n1 : vs ≠ m) (n2 : tr ≠ m) (hn : n ≤ 7) (hc : c0 < 2 ^ 31) (hw : w < 2 ^ 31) :
    tm_C M_U_keepIfLess 1 0 [.ref m, .int (nI n), .int (nI c0)] h (fun z hh => z = .inl none ∧ hh = if c0 < w then tm_up (tm_up h m (tm_o 2 [.int (nI c0), .ref vs, .ref ps, .ref tr])) vs (tm_i 7 (gPr T V n)) else h) := by
  refine tm_C.by (L := [some (.ref m), some (.int (nI n)), some (.int (nI c0))]) rfl rfl rfl rfl rfl ?_
  by_cases e : c0 < w
  · rw [if_pos e]
    have hlt : ¬ w ≤ c0 := by omega
    apply tm_run [] 80
    simp (disch := first | assumption | omega) only [↓reduceIte, tm_w_i, tm_w_0, Bool.false_eq_true, tm_gI_0, tm_gI_s, tm_gA_0, tm_gA_s, tm_fv_0, tm_fv_s, tm_p1_e, tm_pA_e, tm_pJ_e, tm_pV_i, tm_pV_r, tm_cI_e, tm_cZ_e, tm_cJ_e, tm_cQ_e, tm_cO_e, tm_rq_e, List.set_cons_zero, List.set_cons_succ, List.contains_cons, List.contains_nil, Nat.reduceBEq, Bool.or_false, Bool.false_or, Bool.or_true, Bool.true_or, Bool.or_self, cond_true, cond_false, true_and, and_true, or_true, true_or, true_implies, false_implies, not_true_eq_false, not_false_eq_true, List.length_cons, List.length_nil, Option.toList_some, Option.toList_none, List.cons_append, List.nil_append, ws_U_keepIfLess_0, ws_U_keepIfLess_1, ws_U_keepIfLess_2, ws_U_keepIfLess_5, ws_U_keepIfLess_8, ws_U_keepIfLess_9, ws_U_keepIfLess_10, ws_U_keepIfLess_13, ws_U_keepIfLess_14, ws_U_keepIfLess_17, ws_U_keepIfLess_18, ws_U_keepIfLess_19, ws_U_keepIfLess_22, ws_U_keepIfLess_23, ws_U_keepIfLess_24, ws_U_keepIfLess_27, tm_up_s, tm_up_n, tm_up_up, nI_leI, nI_ltI, nI_eq, nI_cl, nI_in', ix_1shl, ix_or, ix_xor, nI_1, bI_0, bI_1, bI_F, pk_us, pk_un, hm, hlt]
    refine ⟨by decide, tm_copy dd_U_keepIfLess_24 tw_ac1 tw_ac3 tw_ac2 tw_ac4 (na := 7) (nb := 7) (f := T) (f' := V) ((tm_up_n n2).trans hT) ((tm_up_n n1).trans hV) hK2 hK1 (by decide) (by decide) (nI_pos (by omega)) (by rw [nI_cl (by omega)]; show 0 + n ≤ 7; omega) (by rw [nI_cl (by omega)]; show 0 + n ≤ 7; omega) (by decide) (by omega) ?_⟩
    have e3 : va_cpy T V (Int32.toNatClampNeg 0) (Int32.toNatClampNeg 0) (nI n).toNatClampNeg = gPr T V n := by
      rw [nI_cl (by omega)]
      funext i
      show (if 0 ≤ i ∧ i < 0 + n then T (0 + (i - 0)) else V i) = _
      unfold gPr
      by_cases q : i < n
      · rw [if_pos q, if_pos ⟨Nat.zero_le _, by omega⟩, Nat.zero_add, Nat.sub_zero]
      · rw [if_neg q, if_neg (fun z => q (by omega))]
    rw [e3]
    refine show tm_T M_U_keepIfLess 1 0 _ 0 27 _ [] _ from ?_
    apply tm_run [] 80
    simp (disch := first | assumption | omega) only [↓reduceIte, tm_w_i, tm_w_0, Bool.false_eq_true, tm_gI_0, tm_gI_s, tm_gA_0, tm_gA_s, tm_fv_0, tm_fv_s, tm_p1_e, tm_pA_e, tm_pJ_e, tm_pV_i, tm_pV_r, tm_cI_e, tm_cZ_e, tm_cJ_e, tm_cQ_e, tm_cO_e, tm_rq_e, List.set_cons_zero, List.set_cons_succ, List.contains_cons, List.contains_nil, Nat.reduceBEq, Bool.or_false, Bool.false_or, Bool.or_true, Bool.true_or, Bool.or_self, cond_true, cond_false, true_and, and_true, or_true, true_or, true_implies, false_implies, not_true_eq_false, not_false_eq_true, List.length_cons, List.length_nil, Option.toList_some, Option.toList_none, List.cons_append, List.nil_append, ws_U_keepIfLess_0, ws_U_keepIfLess_1, ws_U_keepIfLess_2, ws_U_keepIfLess_5, ws_U_keepIfLess_8, ws_U_keepIfLess_9, ws_U_keepIfLess_10, ws_U_keepIfLess_13, ws_U_keepIfLess_14, ws_U_keepIfLess_17, ws_U_keepIfLess_18, ws_U_keepIfLess_19, ws_U_keepIfLess_22, ws_U_keepIfLess_23, ws_U_keepIfLess_24, ws_U_keepIfLess_27, tm_up_s, tm_up_n, tm_up_up, nI_leI, nI_ltI, nI_eq, nI_cl, nI_in', ix_1shl, ix_or, ix_xor, nI_1, bI_0, bI_1, bI_F, pk_us, pk_un]
  · rw [if_neg e]
    have hle : w ≤ c0 := by omega
    apply tm_run [] 80
    simp (disch := first | assumption | omega) only [↓reduceIte, tm_w_i, tm_w_0, Bool.false_eq_true, tm_gI_0, tm_gI_s, tm_gA_0, tm_gA_s, tm_fv_0, tm_fv_s, tm_p1_e, tm_pA_e, tm_pJ_e, tm_pV_i, tm_pV_r, tm_cI_e, tm_cZ_e, tm_cJ_e, tm_cQ_e, tm_cO_e, tm_rq_e, List.set_cons_zero, List.set_cons_succ, List.contains_cons, List.contains_nil, Nat.reduceBEq, Bool.or_false, Bool.false_or, Bool.or_true, Bool.true_or, Bool.or_self, cond_true, cond_false, true_and, and_true, or_true, true_or, true_implies, false_implies, not_true_eq_false, not_false_eq_true, List.length_cons, List.length_nil, Option.toList_some, Option.toList_none, List.cons_append, List.nil_append, ws_U_keepIfLess_0, ws_U_keepIfLess_1, ws_U_keepIfLess_2, ws_U_keepIfLess_5, ws_U_keepIfLess_8, ws_U_keepIfLess_9, ws_U_keepIfLess_10, ws_U_keepIfLess_13, ws_U_keepIfLess_14, ws_U_keepIfLess_17, ws_U_keepIfLess_18, ws_U_keepIfLess_19, ws_U_keepIfLess_22, ws_U_keepIfLess_23, ws_U_keepIfLess_24, ws_U_keepIfLess_27, tm_up_s, tm_up_n, tm_up_up, nI_leI, nI_ltI, nI_eq, nI_cl, nI_in', ix_1shl, ix_or, ix_xor, nI_1, bI_0, bI_1, bI_F, pk_us, pk_un, hm, hle]
end BM
