section BK
variable {h : tm_Hp} {p a b n y o : Nat} {cc nb : Nat → Nat}
/-- what a laying method leaves: an answer, and another row in its array -/
def gYp (h : tm_Hp) (o : Nat) (v : Int32) (z : tm_O) (hh : tm_Hp) : Prop := z = .inl (some (.int v)) ∧ ∃ g' : Nat → Int32, hh = tm_up h o (tm_i 7 g')
theorem gCa_same {set v : Nat} : gCa n cc nb set v v = true := gCa_iff.mpr ⟨fun i => i, gAu_id n cc nb, fun _ _ _ => rfl, rfl⟩
theorem gCa_in {set v w : Nat} (hv : v < n) (hw : w < n) (hne : v ≠ w) (hs : set.testBit v = true ∨ set.testBit w = true) : gCa n cc nb set v w = false := by
  cases e : gCa n cc nb set v w with
  | false => rfl
  | true =>
    obtain ⟨f, h1, h2, h3⟩ := gCa_iff.mp e
    rcases hs with hs | hs
    · exact absurd ((h2 v hv hs).symm.trans h3) hne
    · exact absurd (h1.1.2 v w hv hw (h3.trans (h2 w hw hs).symm)) hne
theorem gLs_id {set : Nat} (hs : set < 128) : gLs n cc nb (fun i => i) set set :=
  ⟨⟨fun i hi _ => ⟨hi, rfl⟩, fun i j _ _ _ _ => ⟨fun e => e, rfl⟩⟩, hs, hs, fun x hx => ⟨fun e => ⟨x, hx, e, rfl⟩, fun ⟨i, _, e, q⟩ => by rw [← q]; exact e⟩⟩
theorem gCa_ex {set v w : Nat} (hv : v < n) (hs : set.testBit v = false) : gCa n cc nb set v w = true ↔ gEx n cc nb (fun i => if i = v then w else i) (set ||| 2 ^ v) := by
  rw [gCa_iff]
  constructor
  · rintro ⟨f, h1, h2, h3⟩
    refine ⟨f, h1, fun i hi hb => ?_⟩
    dsimp only
    by_cases e : i = v
    · rw [if_pos e, e, h3]
    · rw [if_neg e]
      rcases g_or_bit.mp hb with hb | hb
      · exact h2 i hi hb
      · exact absurd hb e
  · rintro ⟨f, h1, h2⟩
    refine ⟨f, h1, fun i hi hb => ?_, ?_⟩
    · rw [h2 i hi (g_or_bit.mpr (Or.inl hb))]
      exact if_neg (fun q => by rw [q, hs] at hb; cases hb)
    · rw [h2 v hv (g_or_bit.mpr (Or.inr rfl))]
      exact if_pos rfl
set_option maxRecDepth 20000 in
theorem l_Y_carries1 {Q : tm_O → tm_Hp → Prop} {v w set : Nat} {g : Nat → Int32} (hg : gG h p a b n cc nb) (hoK : o < tm_K) (h1 : o ≠ p) (h2 : o ≠ a) (h3 : o ≠ b) (h4 : o ≠ y) (hy : h y = tm_o 3 [.ref o]) (ho : h o = tm_i 7 g)
    (hT : tm_T M_Y_carries 11 0 Q 0 54 [some (.ref y), some (.ref p), some (.int (nI v)), some (.int (nI w)), some (.int (nI set)), some (.int (nI n))] [] (tm_up h o (tm_i 7 (gPr nI g n)))) :
    ∀ k u, u + k = n → tm_T M_Y_carries 11 0 Q 0 30 [some (.ref y), some (.ref p), some (.int (nI v)), some (.int (nI w)), some (.int (nI set)), some (.int (nI u))] [] (tm_up h o (tm_i 7 (gPr nI g u))) := by
  obtain ⟨c, f, hp, ha, hb, hc, hf, hok⟩ := hg
  have hn := hok.1
  intro k
  induction k with
  | zero =>
    intro u hu
    obtain rfl : u = n := by omega
    apply tm_run [30, 54] 80
    simp (disch := first | assumption | omega) only [↓reduceIte, tm_w_i, tm_w_0, Bool.false_eq_true, tm_gI_0, tm_gI_s, tm_gA_0, tm_gA_s, tm_fv_0, tm_fv_s, tm_p1_e, tm_pA_e, tm_pJ_e, tm_pV_i, tm_pV_r, tm_cI_e, tm_cZ_e, tm_cJ_e, tm_cQ_e, tm_cO_e, tm_rq_e, List.set_cons_zero, List.set_cons_succ, List.contains_cons, List.contains_nil, Nat.reduceBEq, Bool.or_false, Bool.false_or, Bool.or_true, Bool.true_or, Bool.or_self, cond_true, cond_false, true_and, and_true, or_true, true_or, true_implies, false_implies, not_true_eq_false, not_false_eq_true, List.length_cons, List.length_nil, Option.toList_some, Option.toList_none, List.cons_append, List.nil_append, ws_Y_carries_0, ws_Y_carries_1, ws_Y_carries_2, ws_Y_carries_5, ws_Y_carries_6, ws_Y_carries_7, ws_Y_carries_9, ws_Y_carries_10, ws_Y_carries_13, ws_Y_carries_16, ws_Y_carries_18, ws_Y_carries_19, ws_Y_carries_22, ws_Y_carries_25, ws_Y_carries_26, ws_Y_carries_27, ws_Y_carries_28, ws_Y_carries_30, ws_Y_carries_32, ws_Y_carries_33, ws_Y_carries_36, ws_Y_carries_39, ws_Y_carries_40, ws_Y_carries_43, ws_Y_carries_45, ws_Y_carries_47, ws_Y_carries_48, ws_Y_carries_51, ws_Y_carries_54, ws_Y_carries_55, ws_Y_carries_56, ws_Y_carries_57, ws_Y_carries_58, ws_Y_carries_60, ws_Y_carries_63, ws_Y_carries_66, ws_Y_carries_67, ws_Y_carries_68, ws_Y_carries_69, ws_Y_carries_72, ws_Y_carries_73, ws_Y_carries_74, ws_Y_carries_75, ws_Y_carries_76, ws_Y_carries_77, ws_Y_carries_78, ws_Y_carries_80, ws_Y_carries_81, ws_Y_carries_82, ws_Y_carries_83, ws_Y_carries_84, ws_Y_carries_86, ws_Y_carries_87, ws_Y_carries_88, ws_Y_carries_89, ws_Y_carries_90, ws_Y_carries_93, tm_up_s, tm_up_n, tm_up_up, nI_leI, nI_ltI, nI_eq, nI_cl, nI_in', ix_1shl, ix_or, ix_xor, nI_1, bI_0, bI_1, bI_F, pk_us, pk_un, hp, Nat.le_refl]
    exact hT
  | succ k ih =>
    intro u hu
    have hlt : ¬ n ≤ u := by omega
    apply tm_run [30, 54] 80
    simp (disch := first | assumption | omega) only [↓reduceIte, tm_w_i, tm_w_0, Bool.false_eq_true, tm_gI_0, tm_gI_s, tm_gA_0, tm_gA_s, tm_fv_0, tm_fv_s, tm_p1_e, tm_pA_e, tm_pJ_e, tm_pV_i, tm_pV_r, tm_cI_e, tm_cZ_e, tm_cJ_e, tm_cQ_e, tm_cO_e, tm_rq_e, List.set_cons_zero, List.set_cons_succ, List.contains_cons, List.contains_nil, Nat.reduceBEq, Bool.or_false, Bool.false_or, Bool.or_true, Bool.true_or, Bool.or_self, cond_true, cond_false, true_and, and_true, or_true, true_or, true_implies, false_implies, not_true_eq_false, not_false_eq_true, List.length_cons, List.length_nil, Option.toList_some, Option.toList_none, List.cons_append, List.nil_append, ws_Y_carries_0, ws_Y_carries_1, ws_Y_carries_2, ws_Y_carries_5, ws_Y_carries_6, ws_Y_carries_7, ws_Y_carries_9, ws_Y_carries_10, ws_Y_carries_13, ws_Y_carries_16, ws_Y_carries_18, ws_Y_carries_19, ws_Y_carries_22, ws_Y_carries_25, ws_Y_carries_26, ws_Y_carries_27, ws_Y_carries_28, ws_Y_carries_30, ws_Y_carries_32, ws_Y_carries_33, ws_Y_carries_36, ws_Y_carries_39, ws_Y_carries_40, ws_Y_carries_43, ws_Y_carries_45, ws_Y_carries_47, ws_Y_carries_48, ws_Y_carries_51, ws_Y_carries_54, ws_Y_carries_55, ws_Y_carries_56, ws_Y_carries_57, ws_Y_carries_58, ws_Y_carries_60, ws_Y_carries_63, ws_Y_carries_66, ws_Y_carries_67, ws_Y_carries_68, ws_Y_carries_69, ws_Y_carries_72, ws_Y_carries_73, ws_Y_carries_74, ws_Y_carries_75, ws_Y_carries_76, ws_Y_carries_77, ws_Y_carries_78, ws_Y_carries_80, ws_Y_carries_81, ws_Y_carries_82, ws_Y_carries_83, ws_Y_carries_84, ws_Y_carries_86, ws_Y_carries_87, ws_Y_carries_88, ws_Y_carries_89, ws_Y_carries_90, ws_Y_carries_93, tm_up_s, tm_up_n, tm_up_up, nI_leI, nI_ltI, nI_eq, nI_cl, nI_in', ix_1shl, ix_or, ix_xor, nI_1, bI_0, bI_1, bI_F, pk_us, pk_un, hp, hlt, hy, hoK]
    have := ih (u + 1) (by omega)
    rw [← gPr_upd] at this
    exact this
set_option maxRecDepth 20000 in
theorem c_Y_carries {v w set : Nat} {g : Nat → Int32} (hg : gG h p a b n cc nb) (hoK : o < tm_K) (h1 : o ≠ p) (h2 : o ≠ a) (h3 : o ≠ b) (h4 : o ≠ y) (hy : h y = tm_o 3 [.ref o]) (ho : h o = tm_i 7 g) (hv : v < n) (hw : w < n) (hs : set < 128) :
    tm_C M_Y_carries 11 0 [.ref y, .ref p, .int (nI v), .int (nI w), .int (nI set)] h (gYp h o (bI (gCa n cc nb set v w))) := by
  have hg0 := hg
  obtain ⟨c, f, hp, ha, hb, hc, hf, hok⟩ := hg
  have hn := hok.1
  refine tm_C.by (L := [some (.ref y), some (.ref p), some (.int (nI v)), some (.int (nI w)), some (.int (nI set)), none]) rfl rfl rfl rfl rfl ?_
  apply tm_run [30] 80
  simp (disch := first | assumption | omega) only [↓reduceIte, tm_w_i, tm_w_0, Bool.false_eq_true, tm_gI_0, tm_gI_s, tm_gA_0, tm_gA_s, tm_fv_0, tm_fv_s, tm_p1_e, tm_pA_e, tm_pJ_e, tm_pV_i, tm_pV_r, tm_cI_e, tm_cZ_e, tm_cJ_e, tm_cQ_e, tm_cO_e, tm_rq_e, List.set_cons_zero, List.set_cons_succ, List.contains_cons, List.contains_nil, Nat.reduceBEq, Bool.or_false, Bool.false_or, Bool.or_true, Bool.true_or, Bool.or_self, cond_true, cond_false, true_and, and_true, or_true, true_or, true_implies, false_implies, not_true_eq_false, not_false_eq_true, List.length_cons, List.length_nil, Option.toList_some, Option.toList_none, List.cons_append, List.nil_append, ws_Y_carries_0, ws_Y_carries_1, ws_Y_carries_2, ws_Y_carries_5, ws_Y_carries_6, ws_Y_carries_7, ws_Y_carries_9, ws_Y_carries_10, ws_Y_carries_13, ws_Y_carries_16, ws_Y_carries_18, ws_Y_carries_19, ws_Y_carries_22, ws_Y_carries_25, ws_Y_carries_26, ws_Y_carries_27, ws_Y_carries_28, ws_Y_carries_30, ws_Y_carries_32, ws_Y_carries_33, ws_Y_carries_36, ws_Y_carries_39, ws_Y_carries_40, ws_Y_carries_43, ws_Y_carries_45, ws_Y_carries_47, ws_Y_carries_48, ws_Y_carries_51, ws_Y_carries_54, ws_Y_carries_55, ws_Y_carries_56, ws_Y_carries_57, ws_Y_carries_58, ws_Y_carries_60, ws_Y_carries_63, ws_Y_carries_66, ws_Y_carries_67, ws_Y_carries_68, ws_Y_carries_69, ws_Y_carries_72, ws_Y_carries_73, ws_Y_carries_74, ws_Y_carries_75, ws_Y_carries_76, ws_Y_carries_77, ws_Y_carries_78, ws_Y_carries_80, ws_Y_carries_81, ws_Y_carries_82, ws_Y_carries_83, ws_Y_carries_84, ws_Y_carries_86, ws_Y_carries_87, ws_Y_carries_88, ws_Y_carries_89, ws_Y_carries_90, ws_Y_carries_93, tm_up_s, tm_up_n, tm_up_up, nI_leI, nI_ltI, nI_eq, nI_cl, nI_in', ix_1shl, ix_or, ix_xor, nI_1, bI_0, bI_1, bI_F, pk_us, pk_un]
  have fin : ∀ r : Bool, r = gCa n cc nb set v w → gYp h o (bI (gCa n cc nb set v w)) (.inl (some (.int (bI r)))) h := fun r e => by rw [← e]; exact ⟨rfl, g, (tm_up_id ho).symm⟩
  refine ⟨fun hne => ?_, fun e => ?_⟩
  · refine kd_Y_carries_10 (Nat.le_of_ble_eq_true rfl) (by omega) (by omega) (c_N_contains (by omega) (by omega)) ?_
    cases b1 : set.testBit v with
    | true =>
      have e8 : ¬ bI true = 0 := by decide
      apply tm_run [30] 80
      simp (disch := first | assumption | omega) only [↓reduceIte, tm_w_i, tm_w_0, Bool.false_eq_true, tm_gI_0, tm_gI_s, tm_gA_0, tm_gA_s, tm_fv_0, tm_fv_s, tm_p1_e, tm_pA_e, tm_pJ_e, tm_pV_i, tm_pV_r, tm_cI_e, tm_cZ_e, tm_cJ_e, tm_cQ_e, tm_cO_e, tm_rq_e, List.set_cons_zero, List.set_cons_succ, List.contains_cons, List.contains_nil, Nat.reduceBEq, Bool.or_false, Bool.false_or, Bool.or_true, Bool.true_or, Bool.or_self, cond_true, cond_false, true_and, and_true, or_true, true_or, true_implies, false_implies, not_true_eq_false, not_false_eq_true, List.length_cons, List.length_nil, Option.toList_some, Option.toList_none, List.cons_append, List.nil_append, ws_Y_carries_0, ws_Y_carries_1, ws_Y_carries_2, ws_Y_carries_5, ws_Y_carries_6, ws_Y_carries_7, ws_Y_carries_9, ws_Y_carries_10, ws_Y_carries_13, ws_Y_carries_16, ws_Y_carries_18, ws_Y_carries_19, ws_Y_carries_22, ws_Y_carries_25, ws_Y_carries_26, ws_Y_carries_27, ws_Y_carries_28, ws_Y_carries_30, ws_Y_carries_32, ws_Y_carries_33, ws_Y_carries_36, ws_Y_carries_39, ws_Y_carries_40, ws_Y_carries_43, ws_Y_carries_45, ws_Y_carries_47, ws_Y_carries_48, ws_Y_carries_51, ws_Y_carries_54, ws_Y_carries_55, ws_Y_carries_56, ws_Y_carries_57, ws_Y_carries_58, ws_Y_carries_60, ws_Y_carries_63, ws_Y_carries_66, ws_Y_carries_67, ws_Y_carries_68, ws_Y_carries_69, ws_Y_carries_72, ws_Y_carries_73, ws_Y_carries_74, ws_Y_carries_75, ws_Y_carries_76, ws_Y_carries_77, ws_Y_carries_78, ws_Y_carries_80, ws_Y_carries_81, ws_Y_carries_82, ws_Y_carries_83, ws_Y_carries_84, ws_Y_carries_86, ws_Y_carries_87, ws_Y_carries_88, ws_Y_carries_89, ws_Y_carries_90, ws_Y_carries_93, tm_up_s, tm_up_n, tm_up_up, nI_leI, nI_ltI, nI_eq, nI_cl, nI_in', ix_1shl, ix_or, ix_xor, nI_1, bI_0, bI_1, bI_F, pk_us, pk_un, e8]
      exact fin false (gCa_in hv hw hne (Or.inl b1)).symm
    | false =>
      apply tm_run [30] 80
      simp (disch := first | assumption | omega) only [↓reduceIte, tm_w_i, tm_w_0, Bool.false_eq_true, tm_gI_0, tm_gI_s, tm_gA_0, tm_gA_s, tm_fv_0, tm_fv_s, tm_p1_e, tm_pA_e, tm_pJ_e, tm_pV_i, tm_pV_r, tm_cI_e, tm_cZ_e, tm_cJ_e, tm_cQ_e, tm_cO_e, tm_rq_e, List.set_cons_zero, List.set_cons_succ, List.contains_cons, List.contains_nil, Nat.reduceBEq, Bool.or_false, Bool.false_or, Bool.or_true, Bool.true_or, Bool.or_self, cond_true, cond_false, true_and, and_true, or_true, true_or, true_implies, false_implies, not_true_eq_false, not_false_eq_true, List.length_cons, List.length_nil, Option.toList_some, Option.toList_none, List.cons_append, List.nil_append, ws_Y_carries_0, ws_Y_carries_1, ws_Y_carries_2, ws_Y_carries_5, ws_Y_carries_6, ws_Y_carries_7, ws_Y_carries_9, ws_Y_carries_10, ws_Y_carries_13, ws_Y_carries_16, ws_Y_carries_18, ws_Y_carries_19, ws_Y_carries_22, ws_Y_carries_25, ws_Y_carries_26, ws_Y_carries_27, ws_Y_carries_28, ws_Y_carries_30, ws_Y_carries_32, ws_Y_carries_33, ws_Y_carries_36, ws_Y_carries_39, ws_Y_carries_40, ws_Y_carries_43, ws_Y_carries_45, ws_Y_carries_47, ws_Y_carries_48, ws_Y_carries_51, ws_Y_carries_54, ws_Y_carries_55, ws_Y_carries_56, ws_Y_carries_57, ws_Y_carries_58, ws_Y_carries_60, ws_Y_carries_63, ws_Y_carries_66, ws_Y_carries_67, ws_Y_carries_68, ws_Y_carries_69, ws_Y_carries_72, ws_Y_carries_73, ws_Y_carries_74, ws_Y_carries_75, ws_Y_carries_76, ws_Y_carries_77, ws_Y_carries_78, ws_Y_carries_80, ws_Y_carries_81, ws_Y_carries_82, ws_Y_carries_83, ws_Y_carries_84, ws_Y_carries_86, ws_Y_carries_87, ws_Y_carries_88, ws_Y_carries_89, ws_Y_carries_90, ws_Y_carries_93, tm_up_s, tm_up_n, tm_up_up, nI_leI, nI_ltI, nI_eq, nI_cl, nI_in', ix_1shl, ix_or, ix_xor, nI_1, bI_0, bI_1, bI_F, pk_us, pk_un, bI_f]
      refine kd_Y_carries_19 (Nat.le_of_ble_eq_true rfl) (by omega) (by omega) (c_N_contains (by omega) (by omega)) ?_
      cases b2 : set.testBit w with
      | true =>
        have e8 : ¬ bI true = 0 := by decide
        apply tm_run [30] 80
        simp (disch := first | assumption | omega) only [↓reduceIte, tm_w_i, tm_w_0, Bool.false_eq_true, tm_gI_0, tm_gI_s, tm_gA_0, tm_gA_s, tm_fv_0, tm_fv_s, tm_p1_e, tm_pA_e, tm_pJ_e, tm_pV_i, tm_pV_r, tm_cI_e, tm_cZ_e, tm_cJ_e, tm_cQ_e, tm_cO_e, tm_rq_e, List.set_cons_zero, List.set_cons_succ, List.contains_cons, List.contains_nil, Nat.reduceBEq, Bool.or_false, Bool.false_or, Bool.or_true, Bool.true_or, Bool.or_self, cond_true, cond_false, true_and, and_true, or_true, true_or, true_implies, false_implies, not_true_eq_false, not_false_eq_true, List.length_cons, List.length_nil, Option.toList_some, Option.toList_none, List.cons_append, List.nil_append, ws_Y_carries_22, ws_Y_carries_25, ws_Y_carries_26, ws_Y_carries_27, ws_Y_carries_28, tm_up_s, tm_up_n, tm_up_up, nI_leI, nI_ltI, nI_eq, nI_cl, nI_in', ix_1shl, ix_or, ix_xor, nI_1, bI_0, bI_1, bI_F, pk_us, pk_un, e8]
        exact fin false (gCa_in hv hw hne (Or.inr b2)).symm
      | false =>
        apply tm_run [30] 80
        simp (disch := first | assumption | omega) only [↓reduceIte, tm_w_i, tm_w_0, Bool.false_eq_true, tm_gI_0, tm_gI_s, tm_gA_0, tm_gA_s, tm_fv_0, tm_fv_s, tm_p1_e, tm_pA_e, tm_pJ_e, tm_pV_i, tm_pV_r, tm_cI_e, tm_cZ_e, tm_cJ_e, tm_cQ_e, tm_cO_e, tm_rq_e, List.set_cons_zero, List.set_cons_succ, List.contains_cons, List.contains_nil, Nat.reduceBEq, Bool.or_false, Bool.false_or, Bool.or_true, Bool.true_or, Bool.or_self, cond_true, cond_false, true_and, and_true, or_true, true_or, true_implies, false_implies, not_true_eq_false, not_false_eq_true, List.length_cons, List.length_nil, Option.toList_some, Option.toList_none, List.cons_append, List.nil_append, ws_Y_carries_22, ws_Y_carries_25, ws_Y_carries_26, ws_Y_carries_27, ws_Y_carries_28, tm_up_s, tm_up_n, tm_up_up, nI_leI, nI_ltI, nI_eq, nI_cl, nI_in', ix_1shl, ix_or, ix_xor, nI_1, bI_0, bI_1, bI_F, pk_us, pk_un, bI_f]
        have key := l_Y_carries1 (Q := gYp h o (bI (gCa n cc nb set v w))) (v := v) (w := w) (set := set) hg0 hoK h1 h2 h3 h4 hy ho ?_ n 0 (by omega)
        · rw [gPr_0, tm_up_id ho] at key
          exact key
        · have hyy : (tm_up h o (tm_i 7 (gPr nI g n))) y = tm_o 3 [.ref o] := (tm_up_n h4.symm).trans hy
          have ht : ∀ i, i < n → set.testBit i = true → gPr nI g n i = nI ((fun i => i) i) ∧ (fun i => i) i < n := fun i hi _ => ⟨gPr_in hi, hi⟩
          apply tm_run [30] 80
          simp (disch := first | assumption | omega) only [↓reduceIte, tm_w_i, tm_w_0, Bool.false_eq_true, tm_gI_0, tm_gI_s, tm_gA_0, tm_gA_s, tm_fv_0, tm_fv_s, tm_p1_e, tm_pA_e, tm_pJ_e, tm_pV_i, tm_pV_r, tm_cI_e, tm_cZ_e, tm_cJ_e, tm_cQ_e, tm_cO_e, tm_rq_e, List.set_cons_zero, List.set_cons_succ, List.contains_cons, List.contains_nil, Nat.reduceBEq, Bool.or_false, Bool.false_or, Bool.or_true, Bool.true_or, Bool.or_self, cond_true, cond_false, true_and, and_true, or_true, true_or, true_implies, false_implies, not_true_eq_false, not_false_eq_true, List.length_cons, List.length_nil, Option.toList_some, Option.toList_none, List.cons_append, List.nil_append, ws_Y_carries_0, ws_Y_carries_1, ws_Y_carries_2, ws_Y_carries_5, ws_Y_carries_6, ws_Y_carries_7, ws_Y_carries_9, ws_Y_carries_10, ws_Y_carries_13, ws_Y_carries_16, ws_Y_carries_18, ws_Y_carries_19, ws_Y_carries_22, ws_Y_carries_25, ws_Y_carries_26, ws_Y_carries_27, ws_Y_carries_28, ws_Y_carries_30, ws_Y_carries_32, ws_Y_carries_33, ws_Y_carries_36, ws_Y_carries_39, ws_Y_carries_40, ws_Y_carries_43, ws_Y_carries_45, ws_Y_carries_47, ws_Y_carries_48, ws_Y_carries_51, ws_Y_carries_54, ws_Y_carries_55, ws_Y_carries_56, ws_Y_carries_57, ws_Y_carries_58, ws_Y_carries_60, ws_Y_carries_63, ws_Y_carries_66, ws_Y_carries_67, ws_Y_carries_68, ws_Y_carries_69, ws_Y_carries_72, ws_Y_carries_73, ws_Y_carries_74, ws_Y_carries_75, ws_Y_carries_76, ws_Y_carries_77, ws_Y_carries_78, ws_Y_carries_80, ws_Y_carries_81, ws_Y_carries_82, ws_Y_carries_83, ws_Y_carries_84, ws_Y_carries_86, ws_Y_carries_87, ws_Y_carries_88, ws_Y_carries_89, ws_Y_carries_90, ws_Y_carries_93, tm_up_s, tm_up_n, tm_up_up, nI_leI, nI_ltI, nI_eq, nI_cl, nI_in', ix_1shl, ix_or, ix_xor, nI_1, bI_0, bI_1, bI_F, pk_us, pk_un]
          refine kc_Y_carries_60 hyy (Nat.le_of_ble_eq_true rfl) (by omega) (by omega) (c_Y_fits (t := fun i => i) (hg0.up h1 h2 h3) hyy (tm_up_s _ _ _) hv hw hs ht) ?_ (fun k h1 ⟨⟨_, _, e⟩, _⟩ => nomatch e)
          rintro v0 hh ⟨⟨r, e1, e2⟩, e3⟩
          cases e2; cases e3
          cases r with
          | false =>
            apply tm_run [30] 80
            simp (disch := first | assumption | omega) only [↓reduceIte, tm_w_i, tm_w_0, Bool.false_eq_true, tm_gI_0, tm_gI_s, tm_gA_0, tm_gA_s, tm_fv_0, tm_fv_s, tm_p1_e, tm_pA_e, tm_pJ_e, tm_pV_i, tm_pV_r, tm_cI_e, tm_cZ_e, tm_cJ_e, tm_cQ_e, tm_cO_e, tm_rq_e, List.set_cons_zero, List.set_cons_succ, List.contains_cons, List.contains_nil, Nat.reduceBEq, Bool.or_false, Bool.false_or, Bool.or_true, Bool.true_or, Bool.or_self, cond_true, cond_false, true_and, and_true, or_true, true_or, true_implies, false_implies, not_true_eq_false, not_false_eq_true, List.length_cons, List.length_nil, Option.toList_some, Option.toList_none, List.cons_append, List.nil_append, ws_Y_carries_0, ws_Y_carries_1, ws_Y_carries_2, ws_Y_carries_5, ws_Y_carries_6, ws_Y_carries_7, ws_Y_carries_9, ws_Y_carries_10, ws_Y_carries_13, ws_Y_carries_16, ws_Y_carries_18, ws_Y_carries_19, ws_Y_carries_22, ws_Y_carries_25, ws_Y_carries_26, ws_Y_carries_27, ws_Y_carries_28, ws_Y_carries_30, ws_Y_carries_32, ws_Y_carries_33, ws_Y_carries_36, ws_Y_carries_39, ws_Y_carries_40, ws_Y_carries_43, ws_Y_carries_45, ws_Y_carries_47, ws_Y_carries_48, ws_Y_carries_51, ws_Y_carries_54, ws_Y_carries_55, ws_Y_carries_56, ws_Y_carries_57, ws_Y_carries_58, ws_Y_carries_60, ws_Y_carries_63, ws_Y_carries_66, ws_Y_carries_67, ws_Y_carries_68, ws_Y_carries_69, ws_Y_carries_72, ws_Y_carries_73, ws_Y_carries_74, ws_Y_carries_75, ws_Y_carries_76, ws_Y_carries_77, ws_Y_carries_78, ws_Y_carries_80, ws_Y_carries_81, ws_Y_carries_82, ws_Y_carries_83, ws_Y_carries_84, ws_Y_carries_86, ws_Y_carries_87, ws_Y_carries_88, ws_Y_carries_89, ws_Y_carries_90, ws_Y_carries_93, tm_up_s, tm_up_n, tm_up_up, nI_leI, nI_ltI, nI_eq, nI_cl, nI_in', ix_1shl, ix_or, ix_xor, nI_1, bI_0, bI_1, bI_F, pk_us, pk_un, bI_f]
            have : gCa n cc nb set v w = false := by
              cases e : gCa n cc nb set v w with
              | false => rfl
              | true =>
                obtain ⟨f, q1, q2, q3⟩ := gCa_iff.mp e
                have := gFi_of (t := fun i => i) (laid := set) hok q1 (fun i hi hb => q2 i hi hb) hv
                rw [q3] at this
                exact absurd (e1.mpr this) (by decide)
            rw [this]
            exact ⟨rfl, _, rfl⟩
          | true =>
            have hfi := e1.mp rfl
            have e8 : ¬ bI true = 0 := by decide
            apply tm_run [30] 80
            simp (disch := first | assumption | omega) only [↓reduceIte, tm_w_i, tm_w_0, Bool.false_eq_true, tm_gI_0, tm_gI_s, tm_gA_0, tm_gA_s, tm_fv_0, tm_fv_s, tm_p1_e, tm_pA_e, tm_pJ_e, tm_pV_i, tm_pV_r, tm_cI_e, tm_cZ_e, tm_cJ_e, tm_cQ_e, tm_cO_e, tm_rq_e, List.set_cons_zero, List.set_cons_succ, List.contains_cons, List.contains_nil, Nat.reduceBEq, Bool.or_false, Bool.false_or, Bool.or_true, Bool.true_or, Bool.or_self, cond_true, cond_false, true_and, and_true, or_true, true_or, true_implies, false_implies, not_true_eq_false, not_false_eq_true, List.length_cons, List.length_nil, Option.toList_some, Option.toList_none, List.cons_append, List.nil_append, ws_Y_carries_0, ws_Y_carries_1, ws_Y_carries_2, ws_Y_carries_5, ws_Y_carries_6, ws_Y_carries_7, ws_Y_carries_9, ws_Y_carries_10, ws_Y_carries_13, ws_Y_carries_16, ws_Y_carries_18, ws_Y_carries_19, ws_Y_carries_22, ws_Y_carries_25, ws_Y_carries_26, ws_Y_carries_27, ws_Y_carries_28, ws_Y_carries_30, ws_Y_carries_32, ws_Y_carries_33, ws_Y_carries_36, ws_Y_carries_39, ws_Y_carries_40, ws_Y_carries_43, ws_Y_carries_45, ws_Y_carries_47, ws_Y_carries_48, ws_Y_carries_51, ws_Y_carries_54, ws_Y_carries_55, ws_Y_carries_56, ws_Y_carries_57, ws_Y_carries_58, ws_Y_carries_60, ws_Y_carries_63, ws_Y_carries_66, ws_Y_carries_67, ws_Y_carries_68, ws_Y_carries_69, ws_Y_carries_72, ws_Y_carries_73, ws_Y_carries_74, ws_Y_carries_75, ws_Y_carries_76, ws_Y_carries_77, ws_Y_carries_78, ws_Y_carries_80, ws_Y_carries_81, ws_Y_carries_82, ws_Y_carries_83, ws_Y_carries_84, ws_Y_carries_86, ws_Y_carries_87, ws_Y_carries_88, ws_Y_carries_89, ws_Y_carries_90, ws_Y_carries_93, tm_up_s, tm_up_n, tm_up_up, nI_leI, nI_ltI, nI_eq, nI_cl, nI_in', ix_1shl, ix_or, ix_xor, nI_1, bI_0, bI_1, bI_F, pk_us, pk_un, e8, hy, hoK]
            refine kc_Y_carries_90 (tm_up_n h4.symm |>.trans hy) (Nat.le_of_ble_eq_true rfl) (by omega) (by omega) (c_Y_canGoOn hok hoK h1 h2 h3 h4 n 0 (set ||| 2 ^ v) (set ||| 2 ^ w) (fun i => if i = v then w else i) (upd (gPr nI g n) v (nI w)) _ (by omega) (hg0.up h1 h2 h3) (tm_up_n h4.symm |>.trans hy) (tm_up_s _ _ _) (gLs_add hok (gLs_id hs) hv hw b1 b2 hfi) (fun i hi hb => ?_) (fun i hi => absurd hi (Nat.not_lt_zero i))) ?_ (fun k h1 ⟨_, _, _, e, _⟩ => nomatch e)
            · by_cases e : i = v
              · rw [if_pos e, e, pk_us]
              · rw [if_neg e, pk_un e]
                exact gPr_in hi
            · rintro v1 hh ⟨r, g', z1, z2, z3, z4⟩
              cases z2
              rw [tm_up_up] at z3
              apply tm_run [30] 80
              simp (disch := first | assumption | omega) only [↓reduceIte, tm_w_i, tm_w_0, Bool.false_eq_true, tm_gI_0, tm_gI_s, tm_gA_0, tm_gA_s, tm_fv_0, tm_fv_s, tm_p1_e, tm_pA_e, tm_pJ_e, tm_pV_i, tm_pV_r, tm_cI_e, tm_cZ_e, tm_cJ_e, tm_cQ_e, tm_cO_e, tm_rq_e, List.set_cons_zero, List.set_cons_succ, List.contains_cons, List.contains_nil, Nat.reduceBEq, Bool.or_false, Bool.false_or, Bool.or_true, Bool.true_or, Bool.or_self, cond_true, cond_false, true_and, and_true, or_true, true_or, true_implies, false_implies, not_true_eq_false, not_false_eq_true, List.length_cons, List.length_nil, Option.toList_some, Option.toList_none, List.cons_append, List.nil_append, ws_Y_carries_0, ws_Y_carries_1, ws_Y_carries_2, ws_Y_carries_5, ws_Y_carries_6, ws_Y_carries_7, ws_Y_carries_9, ws_Y_carries_10, ws_Y_carries_13, ws_Y_carries_16, ws_Y_carries_18, ws_Y_carries_19, ws_Y_carries_22, ws_Y_carries_25, ws_Y_carries_26, ws_Y_carries_27, ws_Y_carries_28, ws_Y_carries_30, ws_Y_carries_32, ws_Y_carries_33, ws_Y_carries_36, ws_Y_carries_39, ws_Y_carries_40, ws_Y_carries_43, ws_Y_carries_45, ws_Y_carries_47, ws_Y_carries_48, ws_Y_carries_51, ws_Y_carries_54, ws_Y_carries_55, ws_Y_carries_56, ws_Y_carries_57, ws_Y_carries_58, ws_Y_carries_60, ws_Y_carries_63, ws_Y_carries_66, ws_Y_carries_67, ws_Y_carries_68, ws_Y_carries_69, ws_Y_carries_72, ws_Y_carries_73, ws_Y_carries_74, ws_Y_carries_75, ws_Y_carries_76, ws_Y_carries_77, ws_Y_carries_78, ws_Y_carries_80, ws_Y_carries_81, ws_Y_carries_82, ws_Y_carries_83, ws_Y_carries_84, ws_Y_carries_86, ws_Y_carries_87, ws_Y_carries_88, ws_Y_carries_89, ws_Y_carries_90, ws_Y_carries_93, tm_up_s, tm_up_n, tm_up_up, nI_leI, nI_ltI, nI_eq, nI_cl, nI_in', ix_1shl, ix_or, ix_xor, nI_1, bI_0, bI_1, bI_F, pk_us, pk_un]
              have : r = gCa n cc nb set v w := by
                have := z1.trans (gCa_ex (w := w) hv b1).symm
                cases r <;> cases e : gCa n cc nb set v w <;> simp_all
              rw [this]
              exact ⟨rfl, g', z3⟩
  · have e' : v = w := Classical.byContradiction e
    subst e'
    exact fin true gCa_same.symm
theorem gMk_step (P : Nat → Bool) (k : Nat) : gMk P (k + 1) = bif P k then gMk P k ||| 2 ^ k else gMk P k := by
  rw [gMk]
  cases P k <;> simp
set_option maxRecDepth 20000 in
theorem l_Y_reach {v set : Nat} (hoK : o < tm_K) (h1 : o ≠ p) (h2 : o ≠ a) (h3 : o ≠ b) (h4 : o ≠ y) (hg : gG h p a b n cc nb) (hy : h y = tm_o 3 [.ref o]) (hv : v < n) (hs : set < 128) :
    ∀ (k w : Nat) (g : Nat → Int32), w + k = n → tm_T M_Y_reach 12 0 (gYp h o (nI (gMk (gCa n cc nb set v) n))) 0 6 [some (.ref y), some (.ref p), some (.int (nI v)), some (.int (nI set)), some (.int (nI (gMk (gCa n cc nb set v) w))), some (.int (nI w))] [] (tm_up h o (tm_i 7 g)) := by
  have hg0 := hg
  obtain ⟨c, f, hp, ha, hb, hc, hf, hok⟩ := hg
  have hn := hok.1
  intro k
  induction k with
  | zero =>
    intro w g hw
    obtain rfl : w = n := by omega
    apply tm_run [6] 80
    simp (disch := first | assumption | omega) only [↓reduceIte, tm_w_i, tm_w_0, Bool.false_eq_true, tm_gI_0, tm_gI_s, tm_gA_0, tm_gA_s, tm_fv_0, tm_fv_s, tm_p1_e, tm_pA_e, tm_pJ_e, tm_pV_i, tm_pV_r, tm_cI_e, tm_cZ_e, tm_cJ_e, tm_cQ_e, tm_cO_e, tm_rq_e, List.set_cons_zero, List.set_cons_succ, List.contains_cons, List.contains_nil, Nat.reduceBEq, Bool.or_false, Bool.false_or, Bool.or_true, Bool.true_or, Bool.or_self, cond_true, cond_false, true_and, and_true, or_true, true_or, true_implies, false_implies, not_true_eq_false, not_false_eq_true, List.length_cons, List.length_nil, Option.toList_some, Option.toList_none, List.cons_append, List.nil_append, ws_Y_reach_0, ws_Y_reach_1, ws_Y_reach_3, ws_Y_reach_4, ws_Y_reach_6, ws_Y_reach_8, ws_Y_reach_9, ws_Y_reach_12, ws_Y_reach_15, ws_Y_reach_16, ws_Y_reach_17, ws_Y_reach_18, ws_Y_reach_20, ws_Y_reach_21, ws_Y_reach_24, ws_Y_reach_27, ws_Y_reach_29, ws_Y_reach_30, ws_Y_reach_32, ws_Y_reach_33, ws_Y_reach_34, ws_Y_reach_36, ws_Y_reach_39, ws_Y_reach_42, ws_Y_reach_44, tm_up_s, tm_up_n, tm_up_up, nI_leI, nI_ltI, nI_eq, nI_cl, nI_in', ix_1shl, ix_or, ix_xor, nI_1, bI_0, bI_1, bI_F, pk_us, pk_un, hp, Nat.le_refl]
    exact ⟨rfl, g, rfl⟩
  | succ k ih =>
    intro w g hw
    have hlt : ¬ n ≤ w := by omega
    apply tm_run [6] 80
    simp (disch := first | assumption | omega) only [↓reduceIte, tm_w_i, tm_w_0, Bool.false_eq_true, tm_gI_0, tm_gI_s, tm_gA_0, tm_gA_s, tm_fv_0, tm_fv_s, tm_p1_e, tm_pA_e, tm_pJ_e, tm_pV_i, tm_pV_r, tm_cI_e, tm_cZ_e, tm_cJ_e, tm_cQ_e, tm_cO_e, tm_rq_e, List.set_cons_zero, List.set_cons_succ, List.contains_cons, List.contains_nil, Nat.reduceBEq, Bool.or_false, Bool.false_or, Bool.or_true, Bool.true_or, Bool.or_self, cond_true, cond_false, true_and, and_true, or_true, true_or, true_implies, false_implies, not_true_eq_false, not_false_eq_true, List.length_cons, List.length_nil, Option.toList_some, Option.toList_none, List.cons_append, List.nil_append, ws_Y_reach_0, ws_Y_reach_1, ws_Y_reach_3, ws_Y_reach_4, ws_Y_reach_6, ws_Y_reach_8, ws_Y_reach_9, ws_Y_reach_12, ws_Y_reach_15, ws_Y_reach_16, ws_Y_reach_17, ws_Y_reach_18, ws_Y_reach_20, ws_Y_reach_21, ws_Y_reach_24, ws_Y_reach_27, ws_Y_reach_29, ws_Y_reach_30, ws_Y_reach_32, ws_Y_reach_33, ws_Y_reach_34, ws_Y_reach_36, ws_Y_reach_39, ws_Y_reach_42, ws_Y_reach_44, tm_up_s, tm_up_n, tm_up_up, nI_leI, nI_ltI, nI_eq, nI_cl, nI_in', ix_1shl, ix_or, ix_xor, nI_1, bI_0, bI_1, bI_F, pk_us, pk_un, hp, hlt]
    refine kc_Y_reach_21 (tm_up_n h4.symm |>.trans hy) (Nat.le_of_ble_eq_true rfl) (by omega) (by omega) (c_Y_carries (hg0.up h1 h2 h3) hoK h1 h2 h3 h4 (tm_up_n h4.symm |>.trans hy) (tm_up_s _ _ _) hv (by omega) hs) ?_ (fun k h1 ⟨e, _⟩ => nomatch e)
    rintro v1 hh ⟨e1, g', e2⟩
    cases e1
    rw [tm_up_up] at e2
    subst e2
    have := ih (w + 1) g' (by omega)
    rw [gMk_step] at this
    cases e : gCa n cc nb set v w with
    | false =>
      rw [e] at this
      apply tm_run [6] 80
      simp (disch := first | assumption | omega) only [↓reduceIte, tm_w_i, tm_w_0, Bool.false_eq_true, tm_gI_0, tm_gI_s, tm_gA_0, tm_gA_s, tm_fv_0, tm_fv_s, tm_p1_e, tm_pA_e, tm_pJ_e, tm_pV_i, tm_pV_r, tm_cI_e, tm_cZ_e, tm_cJ_e, tm_cQ_e, tm_cO_e, tm_rq_e, List.set_cons_zero, List.set_cons_succ, List.contains_cons, List.contains_nil, Nat.reduceBEq, Bool.or_false, Bool.false_or, Bool.or_true, Bool.true_or, Bool.or_self, cond_true, cond_false, true_and, and_true, or_true, true_or, true_implies, false_implies, not_true_eq_false, not_false_eq_true, List.length_cons, List.length_nil, Option.toList_some, Option.toList_none, List.cons_append, List.nil_append, ws_Y_reach_0, ws_Y_reach_1, ws_Y_reach_3, ws_Y_reach_4, ws_Y_reach_6, ws_Y_reach_8, ws_Y_reach_9, ws_Y_reach_12, ws_Y_reach_15, ws_Y_reach_16, ws_Y_reach_17, ws_Y_reach_18, ws_Y_reach_20, ws_Y_reach_21, ws_Y_reach_24, ws_Y_reach_27, ws_Y_reach_29, ws_Y_reach_30, ws_Y_reach_32, ws_Y_reach_33, ws_Y_reach_34, ws_Y_reach_36, ws_Y_reach_39, ws_Y_reach_42, ws_Y_reach_44, tm_up_s, tm_up_n, tm_up_up, nI_leI, nI_ltI, nI_eq, nI_cl, nI_in', ix_1shl, ix_or, ix_xor, nI_1, bI_0, bI_1, bI_F, pk_us, pk_un, bI_f]
      exact this
    | true =>
      rw [e] at this
      have e8 : ¬ bI true = 0 := by decide
      apply tm_run [6] 80
      simp (disch := first | assumption | omega) only [↓reduceIte, tm_w_i, tm_w_0, Bool.false_eq_true, tm_gI_0, tm_gI_s, tm_gA_0, tm_gA_s, tm_fv_0, tm_fv_s, tm_p1_e, tm_pA_e, tm_pJ_e, tm_pV_i, tm_pV_r, tm_cI_e, tm_cZ_e, tm_cJ_e, tm_cQ_e, tm_cO_e, tm_rq_e, List.set_cons_zero, List.set_cons_succ, List.contains_cons, List.contains_nil, Nat.reduceBEq, Bool.or_false, Bool.false_or, Bool.or_true, Bool.true_or, Bool.or_self, cond_true, cond_false, true_and, and_true, or_true, true_or, true_implies, false_implies, not_true_eq_false, not_false_eq_true, List.length_cons, List.length_nil, Option.toList_some, Option.toList_none, List.cons_append, List.nil_append, ws_Y_reach_0, ws_Y_reach_1, ws_Y_reach_3, ws_Y_reach_4, ws_Y_reach_6, ws_Y_reach_8, ws_Y_reach_9, ws_Y_reach_12, ws_Y_reach_15, ws_Y_reach_16, ws_Y_reach_17, ws_Y_reach_18, ws_Y_reach_20, ws_Y_reach_21, ws_Y_reach_24, ws_Y_reach_27, ws_Y_reach_29, ws_Y_reach_30, ws_Y_reach_32, ws_Y_reach_33, ws_Y_reach_34, ws_Y_reach_36, ws_Y_reach_39, ws_Y_reach_42, ws_Y_reach_44, tm_up_s, tm_up_n, tm_up_up, nI_leI, nI_ltI, nI_eq, nI_cl, nI_in', ix_1shl, ix_or, ix_xor, nI_1, bI_0, bI_1, bI_F, pk_us, pk_un, e8]
      exact this
set_option maxRecDepth 20000 in
theorem c_Y_reach {v set : Nat} {g : Nat → Int32} (hg : gG h p a b n cc nb) (hoK : o < tm_K) (h1 : o ≠ p) (h2 : o ≠ a) (h3 : o ≠ b) (h4 : o ≠ y) (hy : h y = tm_o 3 [.ref o]) (ho : h o = tm_i 7 g) (hv : v < n) (hs : set < 128) :
    tm_C M_Y_reach 12 0 [.ref y, .ref p, .int (nI v), .int (nI set)] h (gYp h o (nI (gMk (gCa n cc nb set v) n))) := by
  refine tm_C.by (L := [some (.ref y), some (.ref p), some (.int (nI v)), some (.int (nI set)), none, none]) rfl rfl rfl rfl rfl ?_
  apply tm_run [6] 80
  simp (disch := first | assumption | omega) only [↓reduceIte, tm_w_i, tm_w_0, Bool.false_eq_true, tm_gI_0, tm_gI_s, tm_gA_0, tm_gA_s, tm_fv_0, tm_fv_s, tm_p1_e, tm_pA_e, tm_pJ_e, tm_pV_i, tm_pV_r, tm_cI_e, tm_cZ_e, tm_cJ_e, tm_cQ_e, tm_cO_e, tm_rq_e, List.set_cons_zero, List.set_cons_succ, List.contains_cons, List.contains_nil, Nat.reduceBEq, Bool.or_false, Bool.false_or, Bool.or_true, Bool.true_or, Bool.or_self, cond_true, cond_false, true_and, and_true, or_true, true_or, true_implies, false_implies, not_true_eq_false, not_false_eq_true, List.length_cons, List.length_nil, Option.toList_some, Option.toList_none, List.cons_append, List.nil_append, ws_Y_reach_0, ws_Y_reach_1, ws_Y_reach_3, ws_Y_reach_4, ws_Y_reach_6, ws_Y_reach_8, ws_Y_reach_9, ws_Y_reach_12, ws_Y_reach_15, ws_Y_reach_16, ws_Y_reach_17, ws_Y_reach_18, ws_Y_reach_20, ws_Y_reach_21, ws_Y_reach_24, ws_Y_reach_27, ws_Y_reach_29, ws_Y_reach_30, ws_Y_reach_32, ws_Y_reach_33, ws_Y_reach_34, ws_Y_reach_36, ws_Y_reach_39, ws_Y_reach_42, ws_Y_reach_44, tm_up_s, tm_up_n, tm_up_up, nI_leI, nI_ltI, nI_eq, nI_cl, nI_in', ix_1shl, ix_or, ix_xor, nI_1, bI_0, bI_1, bI_F, pk_us, pk_un]
  have := l_Y_reach hoK h1 h2 h3 h4 hg hy hv hs n 0 g (by omega)
  rw [tm_up_id ho] at this
  exact this
/-- the set, with the vertices below k -/
def gFx (set : Nat) : Nat → Nat
  | 0 => set
  | k + 1 => gFx set k ||| 2 ^ k
noncomputable def gNu (n : Nat) (cc nb : Nat → Nat) (set : Nat) : Nat → Nat
  | 0 => 1
  | k + 1 => gNu n cc nb set k * gpc (gMk (gCa n cc nb (gFx set k) k) n)
theorem gFx_lt {set : Nat} (hs : set < 128) : ∀ k, k ≤ 7 → gFx set k < 128
  | 0, _ => hs
  | k + 1, hk => g_or_lt (gFx_lt hs k (by omega)) (by omega)
set_option maxRecDepth 20000 in
theorem l_Y_number {set : Nat} (hoK : o < tm_K) (h1 : o ≠ p) (h2 : o ≠ a) (h3 : o ≠ b) (h4 : o ≠ y) (hg : gG h p a b n cc nb) (hy : h y = tm_o 3 [.ref o]) (hs : set < 128) :
    ∀ (k v : Nat) (g : Nat → Int32), v + k = n → tm_T M_Y_number 13 0 (gYp h o (nI (gNu n cc nb set n))) 0 8 [some (.ref y), some (.ref p), some (.int (nI set)), some (.int (nI (gNu n cc nb set v))), some (.int (nI (gFx set v))), some (.int (nI v))] [] (tm_up h o (tm_i 7 g)) := by
  have hg0 := hg
  obtain ⟨c, f, hp, ha, hb, hc, hf, hok⟩ := hg
  have hn := hok.1
  intro k
  induction k with
  | zero =>
    intro v g hv
    obtain rfl : v = n := by omega
    apply tm_run [8] 80
    simp (disch := first | assumption | omega) only [↓reduceIte, tm_w_i, tm_w_0, Bool.false_eq_true, tm_gI_0, tm_gI_s, tm_gA_0, tm_gA_s, tm_fv_0, tm_fv_s, tm_p1_e, tm_pA_e, tm_pJ_e, tm_pV_i, tm_pV_r, tm_cI_e, tm_cZ_e, tm_cJ_e, tm_cQ_e, tm_cO_e, tm_rq_e, List.set_cons_zero, List.set_cons_succ, List.contains_cons, List.contains_nil, Nat.reduceBEq, Bool.or_false, Bool.false_or, Bool.or_true, Bool.true_or, Bool.or_self, cond_true, cond_false, true_and, and_true, or_true, true_or, true_implies, false_implies, not_true_eq_false, not_false_eq_true, List.length_cons, List.length_nil, Option.toList_some, Option.toList_none, List.cons_append, List.nil_append, ws_Y_number_0, ws_Y_number_1, ws_Y_number_2, ws_Y_number_3, ws_Y_number_5, ws_Y_number_6, ws_Y_number_8, ws_Y_number_10, ws_Y_number_11, ws_Y_number_14, ws_Y_number_17, ws_Y_number_18, ws_Y_number_19, ws_Y_number_20, ws_Y_number_22, ws_Y_number_24, ws_Y_number_27, ws_Y_number_30, ws_Y_number_31, ws_Y_number_32, ws_Y_number_34, ws_Y_number_35, ws_Y_number_37, ws_Y_number_38, ws_Y_number_39, ws_Y_number_41, ws_Y_number_44, ws_Y_number_47, ws_Y_number_48, tm_up_s, tm_up_n, tm_up_up, nI_leI, nI_ltI, nI_eq, nI_cl, nI_in', ix_1shl, ix_or, ix_xor, nI_1, bI_0, bI_1, bI_F, pk_us, pk_un, hp, Nat.le_refl]
    exact ⟨rfl, g, rfl⟩
  | succ k ih =>
    intro v g hv
    have hlt : ¬ n ≤ v := by omega
    apply tm_run [8] 80
    simp (disch := first | assumption | omega) only [↓reduceIte, tm_w_i, tm_w_0, Bool.false_eq_true, tm_gI_0, tm_gI_s, tm_gA_0, tm_gA_s, tm_fv_0, tm_fv_s, tm_p1_e, tm_pA_e, tm_pJ_e, tm_pV_i, tm_pV_r, tm_cI_e, tm_cZ_e, tm_cJ_e, tm_cQ_e, tm_cO_e, tm_rq_e, List.set_cons_zero, List.set_cons_succ, List.contains_cons, List.contains_nil, Nat.reduceBEq, Bool.or_false, Bool.false_or, Bool.or_true, Bool.true_or, Bool.or_self, cond_true, cond_false, true_and, and_true, or_true, true_or, true_implies, false_implies, not_true_eq_false, not_false_eq_true, List.length_cons, List.length_nil, Option.toList_some, Option.toList_none, List.cons_append, List.nil_append, ws_Y_number_0, ws_Y_number_1, ws_Y_number_2, ws_Y_number_3, ws_Y_number_5, ws_Y_number_6, ws_Y_number_8, ws_Y_number_10, ws_Y_number_11, ws_Y_number_14, ws_Y_number_17, ws_Y_number_18, ws_Y_number_19, ws_Y_number_20, ws_Y_number_22, ws_Y_number_24, ws_Y_number_27, ws_Y_number_30, ws_Y_number_31, ws_Y_number_32, ws_Y_number_34, ws_Y_number_35, ws_Y_number_37, ws_Y_number_38, ws_Y_number_39, ws_Y_number_41, ws_Y_number_44, ws_Y_number_47, ws_Y_number_48, tm_up_s, tm_up_n, tm_up_up, nI_leI, nI_ltI, nI_eq, nI_cl, nI_in', ix_1shl, ix_or, ix_xor, nI_1, bI_0, bI_1, bI_F, pk_us, pk_un, hp, hlt]
    refine kc_Y_number_24 (tm_up_n h4.symm |>.trans hy) (Nat.le_of_ble_eq_true rfl) (by omega) (by omega) (c_Y_reach (hg0.up h1 h2 h3) hoK h1 h2 h3 h4 (tm_up_n h4.symm |>.trans hy) (tm_up_s _ _ _) (by omega) (gFx_lt hs v (by omega))) ?_ (fun k h1 ⟨e, _⟩ => nomatch e)
    rintro v1 hh ⟨e1, g', e2⟩
    cases e1
    rw [tm_up_up] at e2
    subst e2
    apply tm_run [8] 80
    simp (disch := first | assumption | omega) only [↓reduceIte, tm_w_i, tm_w_0, Bool.false_eq_true, tm_gI_0, tm_gI_s, tm_gA_0, tm_gA_s, tm_fv_0, tm_fv_s, tm_p1_e, tm_pA_e, tm_pJ_e, tm_pV_i, tm_pV_r, tm_cI_e, tm_cZ_e, tm_cJ_e, tm_cQ_e, tm_cO_e, tm_rq_e, List.set_cons_zero, List.set_cons_succ, List.contains_cons, List.contains_nil, Nat.reduceBEq, Bool.or_false, Bool.false_or, Bool.or_true, Bool.true_or, Bool.or_self, cond_true, cond_false, true_and, and_true, or_true, true_or, true_implies, false_implies, not_true_eq_false, not_false_eq_true, List.length_cons, List.length_nil, Option.toList_some, Option.toList_none, List.cons_append, List.nil_append, ws_Y_number_0, ws_Y_number_1, ws_Y_number_2, ws_Y_number_3, ws_Y_number_5, ws_Y_number_6, ws_Y_number_8, ws_Y_number_10, ws_Y_number_11, ws_Y_number_14, ws_Y_number_17, ws_Y_number_18, ws_Y_number_19, ws_Y_number_20, ws_Y_number_22, ws_Y_number_24, ws_Y_number_27, ws_Y_number_30, ws_Y_number_31, ws_Y_number_32, ws_Y_number_34, ws_Y_number_35, ws_Y_number_37, ws_Y_number_38, ws_Y_number_39, ws_Y_number_41, ws_Y_number_44, ws_Y_number_47, ws_Y_number_48, tm_up_s, tm_up_n, tm_up_up, nI_leI, nI_ltI, nI_eq, nI_cl, nI_in', ix_1shl, ix_or, ix_xor, nI_1, bI_0, bI_1, bI_F, pk_us, pk_un]
    refine kd_Y_number_27 (Nat.le_of_ble_eq_true rfl) (by omega) (by omega) (c_I_bitCount (gMk_lt' hn)) ?_
    have := ih (v + 1) g' (by omega)
    apply tm_run [8] 80
    simp (disch := first | assumption | omega) only [↓reduceIte, tm_w_i, tm_w_0, Bool.false_eq_true, tm_gI_0, tm_gI_s, tm_gA_0, tm_gA_s, tm_fv_0, tm_fv_s, tm_p1_e, tm_pA_e, tm_pJ_e, tm_pV_i, tm_pV_r, tm_cI_e, tm_cZ_e, tm_cJ_e, tm_cQ_e, tm_cO_e, tm_rq_e, List.set_cons_zero, List.set_cons_succ, List.contains_cons, List.contains_nil, Nat.reduceBEq, Bool.or_false, Bool.false_or, Bool.or_true, Bool.true_or, Bool.or_self, cond_true, cond_false, true_and, and_true, or_true, true_or, true_implies, false_implies, not_true_eq_false, not_false_eq_true, List.length_cons, List.length_nil, Option.toList_some, Option.toList_none, List.cons_append, List.nil_append, ws_Y_number_0, ws_Y_number_1, ws_Y_number_2, ws_Y_number_3, ws_Y_number_5, ws_Y_number_6, ws_Y_number_8, ws_Y_number_10, ws_Y_number_11, ws_Y_number_14, ws_Y_number_17, ws_Y_number_18, ws_Y_number_19, ws_Y_number_20, ws_Y_number_22, ws_Y_number_24, ws_Y_number_27, ws_Y_number_30, ws_Y_number_31, ws_Y_number_32, ws_Y_number_34, ws_Y_number_35, ws_Y_number_37, ws_Y_number_38, ws_Y_number_39, ws_Y_number_41, ws_Y_number_44, ws_Y_number_47, ws_Y_number_48, tm_up_s, tm_up_n, tm_up_up, nI_leI, nI_ltI, nI_eq, nI_cl, nI_in', ix_1shl, ix_or, ix_xor, nI_1, bI_0, bI_1, bI_F, pk_us, pk_un, pk_mul]
    exact this
set_option maxRecDepth 20000 in
theorem c_Y_number {set : Nat} {g : Nat → Int32} (hg : gG h p a b n cc nb) (hoK : o < tm_K) (h1 : o ≠ p) (h2 : o ≠ a) (h3 : o ≠ b) (h4 : o ≠ y) (hy : h y = tm_o 3 [.ref o]) (ho : h o = tm_i 7 g) (hs : set < 128) :
    tm_C M_Y_number 13 0 [.ref y, .ref p, .int (nI set)] h (gYp h o (nI (gNu n cc nb set n))) := by
  refine tm_C.by (L := [some (.ref y), some (.ref p), some (.int (nI set)), none, none, none]) rfl rfl rfl rfl rfl ?_
  apply tm_run [8] 80
  simp (disch := first | assumption | omega) only [↓reduceIte, tm_w_i, tm_w_0, Bool.false_eq_true, tm_gI_0, tm_gI_s, tm_gA_0, tm_gA_s, tm_fv_0, tm_fv_s, tm_p1_e, tm_pA_e, tm_pJ_e, tm_pV_i, tm_pV_r, tm_cI_e, tm_cZ_e, tm_cJ_e, tm_cQ_e, tm_cO_e, tm_rq_e, List.set_cons_zero, List.set_cons_succ, List.contains_cons, List.contains_nil, Nat.reduceBEq, Bool.or_false, Bool.false_or, Bool.or_true, Bool.true_or, Bool.or_self, cond_true, cond_false, true_and, and_true, or_true, true_or, true_implies, false_implies, not_true_eq_false, not_false_eq_true, List.length_cons, List.length_nil, Option.toList_some, Option.toList_none, List.cons_append, List.nil_append, ws_Y_number_0, ws_Y_number_1, ws_Y_number_2, ws_Y_number_3, ws_Y_number_5, ws_Y_number_6, ws_Y_number_8, ws_Y_number_10, ws_Y_number_11, ws_Y_number_14, ws_Y_number_17, ws_Y_number_18, ws_Y_number_19, ws_Y_number_20, ws_Y_number_22, ws_Y_number_24, ws_Y_number_27, ws_Y_number_30, ws_Y_number_31, ws_Y_number_32, ws_Y_number_34, ws_Y_number_35, ws_Y_number_37, ws_Y_number_38, ws_Y_number_39, ws_Y_number_41, ws_Y_number_44, ws_Y_number_47, ws_Y_number_48, tm_up_s, tm_up_n, tm_up_up, nI_leI, nI_ltI, nI_eq, nI_cl, nI_in', ix_1shl, ix_or, ix_xor, nI_1, bI_0, bI_1, bI_F, pk_us, pk_un]
  have := l_Y_number hoK h1 h2 h3 h4 hg hy hs n 0 g (by omega)
  rw [tm_up_id ho] at this
  exact this
end BK
