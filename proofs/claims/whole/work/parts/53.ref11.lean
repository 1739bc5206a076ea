section CL
/-- the least that R joins with w, from lo on -/
def gMnl (R : Nat → Nat → Prop) (lo w x : Nat) : Prop := lo ≤ x ∧ x ≤ w ∧ R x w ∧ ∀ u, lo ≤ u → u < x → ¬ R u w
theorem gMnl_yes {R : Nat → Nat → Prop} {v w : Nat} (h : v ≤ w) (hr : R v w) : gMnl R v w v := ⟨Nat.le_refl _, h, hr, fun u h1 h2 => by omega⟩
theorem gMnl_no {R : Nat → Nat → Prop} {v w x : Nat} (h : gMnl R (v + 1) w x) (hr : ¬ R v w) : gMnl R v w x := by
  obtain ⟨a, b, c, d⟩ := h
  refine ⟨by omega, b, c, fun u h1 h2 => ?_⟩
  by_cases e : u = v
  · rw [e]; exact hr
  · exact d u (by omega) h2
/-- each vertex told by the least of its part -/
def gCl (n : Nat) (C c : Nat → Nat) : Prop := ∀ v, v < n → c v ≤ v ∧ C (c v) = C v ∧ gRp C (c v) = true
theorem gCl_eq {n : Nat} {C c : Nat → Nat} (h : gPt n C) (hc : gCl n C c) {v w : Nat} (hv : v < n) (hw : w < n) : c v = c w ↔ C v = C w := by
  obtain ⟨a1, a2, a3⟩ := hc v hv
  obtain ⟨b1, b2, b3⟩ := hc w hw
  constructor
  · intro e; rw [← a2, e, b2]
  · intro e; exact gRp_one h (by omega) (by omega) (a2.trans (e.trans b2.symm)) a3 b3
theorem gCl_of {n : Nat} {C c : Nat → Nat} (h : gPt n C) (hc : ∀ w, w < n → gMnl (fun u w => (C u).testBit w = true) 0 w (c w)) : gCl n C c := by
  intro v hv
  obtain ⟨a, b, d, e⟩ := hc v hv
  refine ⟨b, (h.2 _ _ (by omega) hv).mp d, gRp_iff.mpr (fun w hw => ?_)⟩
  have h1 := (h.2 _ _ (by omega) hv).mp d
  cases q : (C (c v)).testBit w with
  | false => rfl
  | true =>
    have h2 := (h.2 _ _ (by omega) (by omega)).mp q
    exact absurd ((h.2 w v (by omega) hv).mpr (h2.symm.trans h1)) (e w (Nat.zero_le _) hw)
theorem gCl_fix {n : Nat} {C c : Nat → Nat} (h : gPt n C) (hc : gCl n C c) {v : Nat} (hv : v < n) : c v = v ↔ gRp C v = true := by
  obtain ⟨a1, a2, a3⟩ := hc v hv
  exact ⟨fun e => by rw [e] at a3; exact a3, fun e => gRp_one h (by omega) hv a2 a3 e⟩
theorem gCl_one {n : Nat} {C C' c c' : Nat → Nat} (h : gPt n C) (hc : gCl n C c) (hc' : gCl n C' c') (e : ∀ v, v < n → C' v = C v) : ∀ v, v < n → c' v = c v := by
  intro v hv
  obtain ⟨a1, a2, a3⟩ := hc v hv
  obtain ⟨b1, b2, b3⟩ := hc' v hv
  have b3' : gRp C (c' v) = true := by
    rw [gRp_iff] at b3 ⊢
    rw [← e _ (by omega)]; exact b3
  refine gRp_one h (by omega) (by omega) ?_ b3' a3
  rw [a2, ← e v hv, ← b2, e _ (by omega)]
theorem gCl_masks {n : Nat} {C C' c c' : Nat → Nat} (h : gPt n C) (h' : gPt n C') (hc : gCl n C c) (hc' : gCl n C' c') (e : ∀ v, v < n → c' v = c v) : ∀ v, v < n → C' v = C v := by
  intro v hv
  apply Nat.eq_of_testBit_eq
  intro i
  by_cases hi : i < n
  · apply Bool.eq_iff_iff.mpr
    rw [h.2 v i hv hi, h'.2 v i hv hi, ← gCl_eq h hc hv hi, ← gCl_eq h' hc' hv hi, e v hv, e i hi]
  · have : 2 ^ n ≤ 2 ^ i := Nat.pow_le_pow_right (by decide) (by omega)
    rw [Nat.testBit_lt_two_pow (Nat.lt_of_lt_of_le (h'.1 v hv) this), Nat.testBit_lt_two_pow (Nat.lt_of_lt_of_le (h.1 v hv) this)]
/-- the links of v with the part told by c -/
def gLk (n : Nat) (nb c : Nat → Nat) (v x : Nat) : Nat := gS (fun w => if c w = x ∧ (nb v).testBit w = true then 1 else 0) n
theorem gLk_ag {n : Nat} {cc nb C c : Nat → Nat} (hok : gOk n cc nb) (h : gPt n C) (hc : gCl n C c) {v w : Nat} (hv : v < n) (hw : w < n) : (c v = c w ∧ ∀ x, x < 7 → gLk n nb c v x = gLk n nb c w x) ↔ (gRf n nb C v).testBit w = true := by
  rw [gRf_bit hw, h.2 v w hv hw, gCl_eq h hc hv hw, gAg_iff]
  have key : ∀ z, z < n → ∀ u, u < n → gpc (nb z &&& C u) = gLk n nb c z (c u) := by
    intro z hz u hu
    rw [gpc_S (n := n) (Nat.lt_of_le_of_lt Nat.and_le_left (hok.2 z hz).2.1) hok.1]
    unfold gLk
    apply gS_eq
    intro i hi
    have : ((nb z &&& C u).testBit i = true) ↔ (c i = c u ∧ (nb z).testBit i = true) := by
      rw [Nat.testBit_and, Bool.and_eq_true, h.2 u i hu hi, gCl_eq h hc hi hu]
      exact ⟨fun ⟨a, b⟩ => ⟨b.symm, a⟩, fun ⟨a, b⟩ => ⟨b, a.symm⟩⟩
    by_cases q : c i = c u ∧ (nb z).testBit i = true
    · rw [if_pos q, if_pos (this.mpr q)]
    · rw [if_neg q, if_neg (fun z => q (this.mp z))]
  refine and_congr_right (fun _ => ?_)
  constructor
  · intro a u hu
    rw [key v hv u hu, key w hw u hu]
    have := (hc u hu).1
    have := hok.1
    exact a (c u) (by omega)
  · intro a x hx
    by_cases q : ∃ u, u < n ∧ c u = x
    · obtain ⟨u, u1, u2⟩ := q
      rw [← u2, ← key v hv u u1, ← key w hw u u1]
      exact a u u1
    · unfold gLk
      apply gS_eq
      intro i hi
      have : ¬ c i = x := fun z => q ⟨i, hi, z⟩
      rw [if_neg (fun z => this z.1), if_neg (fun z => this z.1)]
variable {S : gSt} {h : tm_Hp} {t l ol : Int32} {g : Nat} {A : Nat → Int32} {c : Nat → Nat}
set_option maxRecDepth 20000 in
theorem c_R_links {v x : Nat} (h0 : h 27 = tm_o 5 [.int t, .ref 28, .ref 29, .ref 30, .ref 31, .ref 32, .int l, .ref 33, .int ol, .ref 34, .ref 35, .ref 36, .ref 37]) (hd : gYd S h) (hA : h 34 = tm_i 7 A) (hg : g < 3) (hc : ∀ w, w < S.1 g → A w = nI (c w) ∧ c w < 7) (hv : v < S.1 g) (hx : x < 7) : tm_C M_R_links 1 0 [.ref 27, .int (nI g), .int (nI v), .int (nI x)] h (fun z k => z = .inl (some (.int (nI (gLk (S.1 g) (S.2.2 g) c v x)))) ∧ k = h) := by
  refine tm_C.by (L := [some (.ref 27), some (.int (nI g)), some (.int (nI v)), some (.int (nI x)), none, none]) rfl rfl rfl rfl rfl ?_
  obtain ⟨sz, y1, y2, y3⟩ := hd.sz hg
  have e8 : ¬ bI true = 0 := by decide
  apply tm_run [6] 80
  simp (disch := first | assumption | omega) only [↓reduceIte, tm_w_i, tm_w_0, Bool.false_eq_true, tm_gI_0, tm_gI_s, tm_gA_0, tm_gA_s, tm_fv_0, tm_fv_s, tm_p1_e, tm_pA_e, tm_pJ_e, tm_pV_i, tm_pV_r, tm_cI_e, tm_cZ_e, tm_cJ_e, tm_cQ_e, tm_cO_e, tm_rq_e, List.set_cons_zero, List.set_cons_succ, List.contains_cons, List.contains_nil, Nat.reduceBEq, Bool.or_false, Bool.false_or, Bool.or_true, Bool.true_or, Bool.or_self, cond_true, cond_false, true_and, and_true, or_true, true_or, true_implies, false_implies, not_true_eq_false, not_false_eq_true, List.length_cons, List.length_nil, Option.toList_some, Option.toList_none, List.cons_append, List.nil_append, ws_R_links_0, ws_R_links_1, ws_R_links_3, ws_R_links_4, ws_R_links_6, ws_R_links_8, ws_R_links_9, ws_R_links_12, ws_R_links_13, ws_R_links_14, ws_R_links_17, ws_R_links_18, ws_R_links_21, ws_R_links_23, ws_R_links_24, ws_R_links_25, ws_R_links_28, ws_R_links_29, ws_R_links_30, ws_R_links_31, ws_R_links_33, ws_R_links_36, ws_R_links_39, ws_R_links_41, ws_R_links_42, ws_R_links_43, ws_R_links_46, ws_R_links_48, ws_R_links_50, ws_R_links_53, ws_R_links_56, ws_R_links_58, tm_up_s, tm_up_n, tm_up_up, nI_leI, nI_ltI, nI_eq, nI_cl, nI_in', ix_1shl, ix_or, ix_xor, nI_1, bI_0, bI_1, bI_F, pk_us, pk_un]
  have key : ∀ m w, w + m = S.1 g → tm_T M_R_links 1 0 (fun z k => z = .inl (some (.int (nI (gLk (S.1 g) (S.2.2 g) c v x)))) ∧ k = h) 0 6 [some (.ref 27), some (.int (nI g)), some (.int (nI v)), some (.int (nI x)), some (.int (nI (gS (fun w => if c w = x ∧ (S.2.2 g v).testBit w = true then 1 else 0) w))), some (.int (nI w))] [] h := by
    intro m
    induction m with
    | zero =>
      intro w hw
      obtain rfl : w = S.1 g := by omega
      apply tm_run [6] 80
      simp (disch := first | assumption | omega) only [↓reduceIte, tm_w_i, tm_w_0, Bool.false_eq_true, tm_gI_0, tm_gI_s, tm_gA_0, tm_gA_s, tm_fv_0, tm_fv_s, tm_p1_e, tm_pA_e, tm_pJ_e, tm_pV_i, tm_pV_r, tm_cI_e, tm_cZ_e, tm_cJ_e, tm_cQ_e, tm_cO_e, tm_rq_e, List.set_cons_zero, List.set_cons_succ, List.contains_cons, List.contains_nil, Nat.reduceBEq, Bool.or_false, Bool.false_or, Bool.or_true, Bool.true_or, Bool.or_self, cond_true, cond_false, true_and, and_true, or_true, true_or, true_implies, false_implies, not_true_eq_false, not_false_eq_true, List.length_cons, List.length_nil, Option.toList_some, Option.toList_none, List.cons_append, List.nil_append, ws_R_links_0, ws_R_links_1, ws_R_links_3, ws_R_links_4, ws_R_links_6, ws_R_links_8, ws_R_links_9, ws_R_links_12, ws_R_links_13, ws_R_links_14, ws_R_links_17, ws_R_links_18, ws_R_links_21, ws_R_links_23, ws_R_links_24, ws_R_links_25, ws_R_links_28, ws_R_links_29, ws_R_links_30, ws_R_links_31, ws_R_links_33, ws_R_links_36, ws_R_links_39, ws_R_links_41, ws_R_links_42, ws_R_links_43, ws_R_links_46, ws_R_links_48, ws_R_links_50, ws_R_links_53, ws_R_links_56, ws_R_links_58, tm_up_s, tm_up_n, tm_up_up, nI_leI, nI_ltI, nI_eq, nI_cl, nI_in', ix_1shl, ix_or, ix_xor, nI_1, bI_0, bI_1, bI_F, pk_us, pk_un, h0, y1, y2, Nat.le_refl]
      rfl
    | succ m ih =>
      intro w hw
      have hlt : ¬ S.1 g ≤ w := by omega
      obtain ⟨a1, a2⟩ := hc w (by omega)
      have := ih (w + 1) (by omega)
      rw [gS] at this
      apply tm_run [6] 80
      simp (disch := first | assumption | omega) only [↓reduceIte, tm_w_i, tm_w_0, Bool.false_eq_true, tm_gI_0, tm_gI_s, tm_gA_0, tm_gA_s, tm_fv_0, tm_fv_s, tm_p1_e, tm_pA_e, tm_pJ_e, tm_pV_i, tm_pV_r, tm_cI_e, tm_cZ_e, tm_cJ_e, tm_cQ_e, tm_cO_e, tm_rq_e, List.set_cons_zero, List.set_cons_succ, List.contains_cons, List.contains_nil, Nat.reduceBEq, Bool.or_false, Bool.false_or, Bool.or_true, Bool.true_or, Bool.or_self, cond_true, cond_false, true_and, and_true, or_true, true_or, true_implies, false_implies, not_true_eq_false, not_false_eq_true, List.length_cons, List.length_nil, Option.toList_some, Option.toList_none, List.cons_append, List.nil_append, ws_R_links_0, ws_R_links_1, ws_R_links_3, ws_R_links_4, ws_R_links_6, ws_R_links_8, ws_R_links_9, ws_R_links_12, ws_R_links_13, ws_R_links_14, ws_R_links_17, ws_R_links_18, ws_R_links_21, ws_R_links_23, ws_R_links_24, ws_R_links_25, ws_R_links_28, ws_R_links_29, ws_R_links_30, ws_R_links_31, ws_R_links_33, ws_R_links_36, ws_R_links_39, ws_R_links_41, ws_R_links_42, ws_R_links_43, ws_R_links_46, ws_R_links_48, ws_R_links_50, ws_R_links_53, ws_R_links_56, ws_R_links_58, tm_up_s, tm_up_n, tm_up_up, nI_leI, nI_ltI, nI_eq, nI_cl, nI_in', ix_1shl, ix_or, ix_xor, nI_1, bI_0, bI_1, bI_F, pk_us, pk_un, h0, y1, y2, hlt, hA, a1]
      refine ⟨fun q => ?_, fun q => ?_⟩
      · rw [if_neg (fun z => q z.1), Nat.add_zero] at this
        exact this
      · have q' : c w = x := Classical.byContradiction q
        refine kd_R_links_33 h0 (Nat.le_of_ble_eq_true rfl) (by omega) (by omega) (c_R_isEdge h0 hd hg hv (by omega)) ?_
        cases b1 : (S.2.2 g v).testBit w with
        | false =>
          rw [if_neg (fun z => by rw [b1] at z; exact nomatch z.2), Nat.add_zero] at this
          apply tm_run [6] 80
          simp (disch := first | assumption | omega) only [↓reduceIte, tm_w_i, tm_w_0, Bool.false_eq_true, tm_gI_0, tm_gI_s, tm_gA_0, tm_gA_s, tm_fv_0, tm_fv_s, tm_p1_e, tm_pA_e, tm_pJ_e, tm_pV_i, tm_pV_r, tm_cI_e, tm_cZ_e, tm_cJ_e, tm_cQ_e, tm_cO_e, tm_rq_e, List.set_cons_zero, List.set_cons_succ, List.contains_cons, List.contains_nil, Nat.reduceBEq, Bool.or_false, Bool.false_or, Bool.or_true, Bool.true_or, Bool.or_self, cond_true, cond_false, true_and, and_true, or_true, true_or, true_implies, false_implies, not_true_eq_false, not_false_eq_true, List.length_cons, List.length_nil, Option.toList_some, Option.toList_none, List.cons_append, List.nil_append, ws_R_links_0, ws_R_links_1, ws_R_links_3, ws_R_links_4, ws_R_links_6, ws_R_links_8, ws_R_links_9, ws_R_links_12, ws_R_links_13, ws_R_links_14, ws_R_links_17, ws_R_links_18, ws_R_links_21, ws_R_links_23, ws_R_links_24, ws_R_links_25, ws_R_links_28, ws_R_links_29, ws_R_links_30, ws_R_links_31, ws_R_links_33, ws_R_links_36, ws_R_links_39, ws_R_links_41, ws_R_links_42, ws_R_links_43, ws_R_links_46, ws_R_links_48, ws_R_links_50, ws_R_links_53, ws_R_links_56, ws_R_links_58, tm_up_s, tm_up_n, tm_up_up, nI_leI, nI_ltI, nI_eq, nI_cl, nI_in', ix_1shl, ix_or, ix_xor, nI_1, bI_0, bI_1, bI_F, pk_us, pk_un, bI_f]
          exact this
        | true =>
          rw [if_pos ⟨q', b1⟩] at this
          apply tm_run [6] 80
          simp (disch := first | assumption | omega) only [↓reduceIte, tm_w_i, tm_w_0, Bool.false_eq_true, tm_gI_0, tm_gI_s, tm_gA_0, tm_gA_s, tm_fv_0, tm_fv_s, tm_p1_e, tm_pA_e, tm_pJ_e, tm_pV_i, tm_pV_r, tm_cI_e, tm_cZ_e, tm_cJ_e, tm_cQ_e, tm_cO_e, tm_rq_e, List.set_cons_zero, List.set_cons_succ, List.contains_cons, List.contains_nil, Nat.reduceBEq, Bool.or_false, Bool.false_or, Bool.or_true, Bool.true_or, Bool.or_self, cond_true, cond_false, true_and, and_true, or_true, true_or, true_implies, false_implies, not_true_eq_false, not_false_eq_true, List.length_cons, List.length_nil, Option.toList_some, Option.toList_none, List.cons_append, List.nil_append, ws_R_links_0, ws_R_links_1, ws_R_links_3, ws_R_links_4, ws_R_links_6, ws_R_links_8, ws_R_links_9, ws_R_links_12, ws_R_links_13, ws_R_links_14, ws_R_links_17, ws_R_links_18, ws_R_links_21, ws_R_links_23, ws_R_links_24, ws_R_links_25, ws_R_links_28, ws_R_links_29, ws_R_links_30, ws_R_links_31, ws_R_links_33, ws_R_links_36, ws_R_links_39, ws_R_links_41, ws_R_links_42, ws_R_links_43, ws_R_links_46, ws_R_links_48, ws_R_links_50, ws_R_links_53, ws_R_links_56, ws_R_links_58, tm_up_s, tm_up_n, tm_up_up, nI_leI, nI_ltI, nI_eq, nI_cl, nI_in', ix_1shl, ix_or, ix_xor, nI_1, bI_0, bI_1, bI_F, pk_us, pk_un, e8]
          exact this
  exact key (S.1 g) 0 (by omega)
theorem gLk_le (n : Nat) (nb c : Nat → Nat) (v x : Nat) : gLk n nb c v x ≤ n := by
  have := gS_le (f := fun w => if c w = x ∧ (nb v).testBit w = true then 1 else 0) (b := 1) (fun i => by split <;> omega) n
  unfold gLk
  omega
set_option maxRecDepth 20000 in
theorem c_R_agree {v w : Nat} (h0 : h 27 = tm_o 5 [.int t, .ref 28, .ref 29, .ref 30, .ref 31, .ref 32, .int l, .ref 33, .int ol, .ref 34, .ref 35, .ref 36, .ref 37]) (hd : gYd S h) (hA : h 34 = tm_i 7 A) (hg : g < 3) (hc : ∀ w, w < S.1 g → A w = nI (c w) ∧ c w < 7) (hv : v < S.1 g) (hw : w < S.1 g) : tm_C M_R_agree 2 0 [.ref 27, .int (nI g), .int (nI v), .int (nI w)] h (fun z k => (∃ b : Bool, (b = true ↔ c v = c w ∧ ∀ x, x < 7 → gLk (S.1 g) (S.2.2 g) c v x = gLk (S.1 g) (S.2.2 g) c w x) ∧ z = .inl (some (.int (bI b)))) ∧ k = h) := by
  refine tm_C.by (L := [some (.ref 27), some (.int (nI g)), some (.int (nI v)), some (.int (nI w)), none, none]) rfl rfl rfl rfl rfl ?_
  have e8 : ¬ bI true = 0 := by decide
  obtain ⟨_, _, _, y3⟩ := hd.sz hg
  obtain ⟨a1, a2⟩ := hc v hv
  obtain ⟨a3, a4⟩ := hc w hw
  have key : ∀ (m x : Nat) (b : Bool), x + m = 7 → (b = true ↔ c v = c w ∧ ∀ y, y < x → gLk (S.1 g) (S.2.2 g) c v y = gLk (S.1 g) (S.2.2 g) c w y) → tm_T M_R_agree 2 0 (fun z k => (∃ b : Bool, (b = true ↔ c v = c w ∧ ∀ x, x < 7 → gLk (S.1 g) (S.2.2 g) c v x = gLk (S.1 g) (S.2.2 g) c w x) ∧ z = .inl (some (.int (bI b)))) ∧ k = h) 0 25 [some (.ref 27), some (.int (nI g)), some (.int (nI v)), some (.int (nI w)), some (.int (bI b)), some (.int (nI x))] [] h := by
    intro m
    induction m with
    | zero =>
      intro x b hx hb
      obtain rfl : x = 7 := by omega
      apply tm_run [25] 80
      simp (disch := first | assumption | omega) only [↓reduceIte, tm_w_i, tm_w_0, Bool.false_eq_true, tm_gI_0, tm_gI_s, tm_gA_0, tm_gA_s, tm_fv_0, tm_fv_s, tm_p1_e, tm_pA_e, tm_pJ_e, tm_pV_i, tm_pV_r, tm_cI_e, tm_cZ_e, tm_cJ_e, tm_cQ_e, tm_cO_e, tm_rq_e, List.set_cons_zero, List.set_cons_succ, List.contains_cons, List.contains_nil, Nat.reduceBEq, Bool.or_false, Bool.false_or, Bool.or_true, Bool.true_or, Bool.or_self, cond_true, cond_false, true_and, and_true, or_true, true_or, true_implies, false_implies, not_true_eq_false, not_false_eq_true, List.length_cons, List.length_nil, Option.toList_some, Option.toList_none, List.cons_append, List.nil_append, ws_R_agree_0, ws_R_agree_1, ws_R_agree_4, ws_R_agree_5, ws_R_agree_6, ws_R_agree_7, ws_R_agree_10, ws_R_agree_11, ws_R_agree_12, ws_R_agree_15, ws_R_agree_16, ws_R_agree_19, ws_R_agree_20, ws_R_agree_22, ws_R_agree_23, ws_R_agree_25, ws_R_agree_27, ws_R_agree_29, ws_R_agree_32, ws_R_agree_34, ws_R_agree_37, ws_R_agree_38, ws_R_agree_39, ws_R_agree_40, ws_R_agree_42, ws_R_agree_45, ws_R_agree_46, ws_R_agree_47, ws_R_agree_48, ws_R_agree_50, ws_R_agree_53, ws_R_agree_56, ws_R_agree_57, ws_R_agree_60, ws_R_agree_61, ws_R_agree_63, ws_R_agree_66, ws_R_agree_69, ws_R_agree_71, tm_up_s, tm_up_n, tm_up_up, nI_leI, nI_ltI, nI_eq, nI_cl, nI_in', ix_1shl, ix_or, ix_xor, nI_1, bI_0, bI_1, bI_F, pk_us, pk_un, i_7, Nat.le_refl]
      exact ⟨b, hb, rfl⟩
    | succ m ih =>
      intro x b hx hb
      have hlt : ¬ 7 ≤ x := by omega
      cases b with
      | false =>
        apply tm_run [25] 80
        simp (disch := first | assumption | omega) only [↓reduceIte, tm_w_i, tm_w_0, Bool.false_eq_true, tm_gI_0, tm_gI_s, tm_gA_0, tm_gA_s, tm_fv_0, tm_fv_s, tm_p1_e, tm_pA_e, tm_pJ_e, tm_pV_i, tm_pV_r, tm_cI_e, tm_cZ_e, tm_cJ_e, tm_cQ_e, tm_cO_e, tm_rq_e, List.set_cons_zero, List.set_cons_succ, List.contains_cons, List.contains_nil, Nat.reduceBEq, Bool.or_false, Bool.false_or, Bool.or_true, Bool.true_or, Bool.or_self, cond_true, cond_false, true_and, and_true, or_true, true_or, true_implies, false_implies, not_true_eq_false, not_false_eq_true, List.length_cons, List.length_nil, Option.toList_some, Option.toList_none, List.cons_append, List.nil_append, ws_R_agree_0, ws_R_agree_1, ws_R_agree_4, ws_R_agree_5, ws_R_agree_6, ws_R_agree_7, ws_R_agree_10, ws_R_agree_11, ws_R_agree_12, ws_R_agree_15, ws_R_agree_16, ws_R_agree_19, ws_R_agree_20, ws_R_agree_22, ws_R_agree_23, ws_R_agree_25, ws_R_agree_27, ws_R_agree_29, ws_R_agree_32, ws_R_agree_34, ws_R_agree_37, ws_R_agree_38, ws_R_agree_39, ws_R_agree_40, ws_R_agree_42, ws_R_agree_45, ws_R_agree_46, ws_R_agree_47, ws_R_agree_48, ws_R_agree_50, ws_R_agree_53, ws_R_agree_56, ws_R_agree_57, ws_R_agree_60, ws_R_agree_61, ws_R_agree_63, ws_R_agree_66, ws_R_agree_69, ws_R_agree_71, tm_up_s, tm_up_n, tm_up_up, nI_leI, nI_ltI, nI_eq, nI_cl, nI_in', ix_1shl, ix_or, ix_xor, nI_1, bI_0, bI_1, bI_F, pk_us, pk_un, i_7, hlt, bI_f]
        exact ih (x + 1) false (by omega) ⟨(fun q => nomatch q), fun q => absurd (hb.mpr ⟨q.1, fun y hy => q.2 y (by omega)⟩) (by decide)⟩
      | true =>
        obtain ⟨b1, b2⟩ := hb.mp rfl
        have l1 := gLk_le (S.1 g) (S.2.2 g) c v x
        have l2 := gLk_le (S.1 g) (S.2.2 g) c w x
        apply tm_run [25] 80
        simp (disch := first | assumption | omega) only [↓reduceIte, tm_w_i, tm_w_0, Bool.false_eq_true, tm_gI_0, tm_gI_s, tm_gA_0, tm_gA_s, tm_fv_0, tm_fv_s, tm_p1_e, tm_pA_e, tm_pJ_e, tm_pV_i, tm_pV_r, tm_cI_e, tm_cZ_e, tm_cJ_e, tm_cQ_e, tm_cO_e, tm_rq_e, List.set_cons_zero, List.set_cons_succ, List.contains_cons, List.contains_nil, Nat.reduceBEq, Bool.or_false, Bool.false_or, Bool.or_true, Bool.true_or, Bool.or_self, cond_true, cond_false, true_and, and_true, or_true, true_or, true_implies, false_implies, not_true_eq_false, not_false_eq_true, List.length_cons, List.length_nil, Option.toList_some, Option.toList_none, List.cons_append, List.nil_append, ws_R_agree_0, ws_R_agree_1, ws_R_agree_4, ws_R_agree_5, ws_R_agree_6, ws_R_agree_7, ws_R_agree_10, ws_R_agree_11, ws_R_agree_12, ws_R_agree_15, ws_R_agree_16, ws_R_agree_19, ws_R_agree_20, ws_R_agree_22, ws_R_agree_23, ws_R_agree_25, ws_R_agree_27, ws_R_agree_29, ws_R_agree_32, ws_R_agree_34, ws_R_agree_37, ws_R_agree_38, ws_R_agree_39, ws_R_agree_40, ws_R_agree_42, ws_R_agree_45, ws_R_agree_46, ws_R_agree_47, ws_R_agree_48, ws_R_agree_50, ws_R_agree_53, ws_R_agree_56, ws_R_agree_57, ws_R_agree_60, ws_R_agree_61, ws_R_agree_63, ws_R_agree_66, ws_R_agree_69, ws_R_agree_71, tm_up_s, tm_up_n, tm_up_up, nI_leI, nI_ltI, nI_eq, nI_cl, nI_in', ix_1shl, ix_or, ix_xor, nI_1, bI_0, bI_1, bI_F, pk_us, pk_un, i_7, hlt, e8]
        refine kd_R_agree_42 h0 (Nat.le_of_ble_eq_true rfl) (by omega) (by omega) (c_R_links h0 hd hA hg hc hv (by omega)) ?_
        apply tm_run [25] 80
        simp (disch := first | assumption | omega) only [↓reduceIte, tm_w_i, tm_w_0, Bool.false_eq_true, tm_gI_0, tm_gI_s, tm_gA_0, tm_gA_s, tm_fv_0, tm_fv_s, tm_p1_e, tm_pA_e, tm_pJ_e, tm_pV_i, tm_pV_r, tm_cI_e, tm_cZ_e, tm_cJ_e, tm_cQ_e, tm_cO_e, tm_rq_e, List.set_cons_zero, List.set_cons_succ, List.contains_cons, List.contains_nil, Nat.reduceBEq, Bool.or_false, Bool.false_or, Bool.or_true, Bool.true_or, Bool.or_self, cond_true, cond_false, true_and, and_true, or_true, true_or, true_implies, false_implies, not_true_eq_false, not_false_eq_true, List.length_cons, List.length_nil, Option.toList_some, Option.toList_none, List.cons_append, List.nil_append, ws_R_agree_0, ws_R_agree_1, ws_R_agree_4, ws_R_agree_5, ws_R_agree_6, ws_R_agree_7, ws_R_agree_10, ws_R_agree_11, ws_R_agree_12, ws_R_agree_15, ws_R_agree_16, ws_R_agree_19, ws_R_agree_20, ws_R_agree_22, ws_R_agree_23, ws_R_agree_25, ws_R_agree_27, ws_R_agree_29, ws_R_agree_32, ws_R_agree_34, ws_R_agree_37, ws_R_agree_38, ws_R_agree_39, ws_R_agree_40, ws_R_agree_42, ws_R_agree_45, ws_R_agree_46, ws_R_agree_47, ws_R_agree_48, ws_R_agree_50, ws_R_agree_53, ws_R_agree_56, ws_R_agree_57, ws_R_agree_60, ws_R_agree_61, ws_R_agree_63, ws_R_agree_66, ws_R_agree_69, ws_R_agree_71, tm_up_s, tm_up_n, tm_up_up, nI_leI, nI_ltI, nI_eq, nI_cl, nI_in', ix_1shl, ix_or, ix_xor, nI_1, bI_0, bI_1, bI_F, pk_us, pk_un]
        refine kd_R_agree_50 h0 (Nat.le_of_ble_eq_true rfl) (by omega) (by omega) (c_R_links h0 hd hA hg hc hw (by omega)) ?_
        apply tm_run [25] 80
        simp (disch := first | assumption | omega) only [↓reduceIte, tm_w_i, tm_w_0, Bool.false_eq_true, tm_gI_0, tm_gI_s, tm_gA_0, tm_gA_s, tm_fv_0, tm_fv_s, tm_p1_e, tm_pA_e, tm_pJ_e, tm_pV_i, tm_pV_r, tm_cI_e, tm_cZ_e, tm_cJ_e, tm_cQ_e, tm_cO_e, tm_rq_e, List.set_cons_zero, List.set_cons_succ, List.contains_cons, List.contains_nil, Nat.reduceBEq, Bool.or_false, Bool.false_or, Bool.or_true, Bool.true_or, Bool.or_self, cond_true, cond_false, true_and, and_true, or_true, true_or, true_implies, false_implies, not_true_eq_false, not_false_eq_true, List.length_cons, List.length_nil, Option.toList_some, Option.toList_none, List.cons_append, List.nil_append, ws_R_agree_0, ws_R_agree_1, ws_R_agree_4, ws_R_agree_5, ws_R_agree_6, ws_R_agree_7, ws_R_agree_10, ws_R_agree_11, ws_R_agree_12, ws_R_agree_15, ws_R_agree_16, ws_R_agree_19, ws_R_agree_20, ws_R_agree_22, ws_R_agree_23, ws_R_agree_25, ws_R_agree_27, ws_R_agree_29, ws_R_agree_32, ws_R_agree_34, ws_R_agree_37, ws_R_agree_38, ws_R_agree_39, ws_R_agree_40, ws_R_agree_42, ws_R_agree_45, ws_R_agree_46, ws_R_agree_47, ws_R_agree_48, ws_R_agree_50, ws_R_agree_53, ws_R_agree_56, ws_R_agree_57, ws_R_agree_60, ws_R_agree_61, ws_R_agree_63, ws_R_agree_66, ws_R_agree_69, ws_R_agree_71, tm_up_s, tm_up_n, tm_up_up, nI_leI, nI_ltI, nI_eq, nI_cl, nI_in', ix_1shl, ix_or, ix_xor, nI_1, bI_0, bI_1, bI_F, pk_us, pk_un]
        refine ⟨fun q => ?_, fun q => ?_⟩
        · exact ih (x + 1) false (by omega) ⟨(fun z => nomatch z), fun z => absurd (z.2 x (by omega)) q⟩
        · refine ih (x + 1) true (by omega) ⟨fun _ => ⟨b1, fun y hy => ?_⟩, fun _ => rfl⟩
          by_cases z : y = x
          · rw [z]; exact Classical.byContradiction q
          · exact b2 y (by omega)
  apply tm_run [25] 80
  simp (disch := first | assumption | omega) only [↓reduceIte, tm_w_i, tm_w_0, Bool.false_eq_true, tm_gI_0, tm_gI_s, tm_gA_0, tm_gA_s, tm_fv_0, tm_fv_s, tm_p1_e, tm_pA_e, tm_pJ_e, tm_pV_i, tm_pV_r, tm_cI_e, tm_cZ_e, tm_cJ_e, tm_cQ_e, tm_cO_e, tm_rq_e, List.set_cons_zero, List.set_cons_succ, List.contains_cons, List.contains_nil, Nat.reduceBEq, Bool.or_false, Bool.false_or, Bool.or_true, Bool.true_or, Bool.or_self, cond_true, cond_false, true_and, and_true, or_true, true_or, true_implies, false_implies, not_true_eq_false, not_false_eq_true, List.length_cons, List.length_nil, Option.toList_some, Option.toList_none, List.cons_append, List.nil_append, ws_R_agree_0, ws_R_agree_1, ws_R_agree_4, ws_R_agree_5, ws_R_agree_6, ws_R_agree_7, ws_R_agree_10, ws_R_agree_11, ws_R_agree_12, ws_R_agree_15, ws_R_agree_16, ws_R_agree_19, ws_R_agree_20, ws_R_agree_22, ws_R_agree_23, ws_R_agree_25, ws_R_agree_27, ws_R_agree_29, ws_R_agree_32, ws_R_agree_34, ws_R_agree_37, ws_R_agree_38, ws_R_agree_39, ws_R_agree_40, ws_R_agree_42, ws_R_agree_45, ws_R_agree_46, ws_R_agree_47, ws_R_agree_48, ws_R_agree_50, ws_R_agree_53, ws_R_agree_56, ws_R_agree_57, ws_R_agree_60, ws_R_agree_61, ws_R_agree_63, ws_R_agree_66, ws_R_agree_69, ws_R_agree_71, tm_up_s, tm_up_n, tm_up_up, nI_leI, nI_ltI, nI_eq, nI_cl, nI_in', ix_1shl, ix_or, ix_xor, nI_1, bI_0, bI_1, bI_F, pk_us, pk_un, h0, hA, a1, a3]
  refine ⟨fun q => ?_, fun q => ?_⟩
  · exact key 7 0 false (by omega) ⟨(fun z => nomatch z), fun z => absurd z.1 q⟩
  · exact key 7 0 true (by omega) ⟨fun _ => ⟨Classical.byContradiction q, fun y hy => absurd hy (Nat.not_lt_zero y)⟩, fun _ => rfl⟩
end CL
