section CH
variable {S : gSt} {h : tm_Hp} {t l ol : Int32} {g : Nat}
theorem gRi_eq {n : Nat} {cc q r : Nat → Nat} (e : gp_eq n q r) (h : gRi n cc q) : gRi n cc r := ⟨gp_pm_eq e h.1, fun i j hij hj => by rw [← e i (by omega), ← e j hj]; exact h.2 i j hij hj⟩
theorem gRi_step {n : Nat} {cc r : Nat → Nat} (hr : gp_pm n r) : (∀ i, i + 1 < n → cc (r i) ≤ cc (r (i + 1))) ↔ gRi n cc r := by
  constructor
  · intro q
    refine ⟨hr, fun i j => ?_⟩
    induction j with
    | zero => intro hi; omega
    | succ j ih =>
      intro hij hj
      by_cases e : i = j
      · rw [e]; exact q j hj
      · have := ih (by omega) (by omega)
        have := q j hj
        omega
  · intro q i hi
    exact q.2 i (i + 1) (Nat.lt_succ_self i) hi
/-- the best so far, of those that W likes -/
def gBf (n : Nat) (cc nb : Nat → Nat) (W : (Nat → Nat) → Prop) (l : Int32) (F : Nat → Int32) : Prop :=
  (l = -1 ∧ ∀ q, gRi n cc q → ¬ W q) ∨ ∃ q, gRi n cc q ∧ l = nI (gCo nb q n) ∧ (∀ i, i < n → F i = nI (q i)) ∧ W q ∧ ∀ q', gRi n cc q' → W q' → gLe n nb q q'
theorem gLe_refl {n : Nat} {nb q q' : Nat → Nat} (e : gp_eq n q q') : gLe n nb q q' := Or.inr ⟨gCo_eq e, fun z => gp_irr (fun i hi => (e i hi).symm) z⟩
theorem gBf_keep {n : Nat} {cc nb r : Nat → Nat} {l : Int32} {F : Nat → Int32} (h : gBf n cc nb (fun q => gp_lt n q r) l F) (hn : ¬ gRi n cc r) : gBf n cc nb (fun q => gp_lt n q r ∨ gp_eq n q r) l F := by
  have no : ∀ q, gRi n cc q → gp_lt n q r ∨ gp_eq n q r → gp_lt n q r := fun q a b => by
    rcases b with b | b
    · exact b
    · exact absurd (gRi_eq b a) hn
  rcases h with ⟨h1, h2⟩ | ⟨q, h1, h2, h3, h4, h5⟩
  · exact Or.inl ⟨h1, fun q a b => h2 q a (no q a b)⟩
  · exact Or.inr ⟨q, h1, h2, h3, Or.inl h4, fun q' a b => h5 q' a (no q' a b)⟩
theorem gBf_first {n : Nat} {cc nb r : Nat → Nat} {F F' : Nat → Int32} (h : ∀ q, gRi n cc q → ¬ gp_lt n q r) (hr : gRi n cc r) (hF : ∀ i, i < n → F' i = nI (r i)) : gBf n cc nb (fun q => gp_lt n q r ∨ gp_eq n q r) (nI (gCo nb r n)) F' :=
  Or.inr ⟨r, hr, rfl, hF, Or.inr (fun _ _ => rfl), fun q' a b => by
    rcases b with b | b
    · exact absurd b (h q' a)
    · exact gLe_refl (fun i hi => (b i hi).symm)⟩
theorem gBf_less {n : Nat} {cc nb r q : Nat → Nat} {F' : Nat → Int32} (h5 : ∀ q', gRi n cc q' → gp_lt n q' r → gLe n nb q q') (hr : gRi n cc r) (hlt : gCo nb r n < gCo nb q n) (hF : ∀ i, i < n → F' i = nI (r i)) : gBf n cc nb (fun q => gp_lt n q r ∨ gp_eq n q r) (nI (gCo nb r n)) F' :=
  Or.inr ⟨r, hr, rfl, hF, Or.inr (fun _ _ => rfl), fun q' a b => by
    rcases b with b | b
    · refine Or.inl ?_
      rcases h5 q' a b with z | z <;> omega
    · exact gLe_refl (fun i hi => (b i hi).symm)⟩
theorem gBf_more {n : Nat} {cc nb r q : Nat → Nat} {F : Nat → Int32} (h1 : gRi n cc q) (h3 : ∀ i, i < n → F i = nI (q i)) (h4 : gp_lt n q r) (h5 : ∀ q', gRi n cc q' → gp_lt n q' r → gLe n nb q q') (hge : ¬ gCo nb r n < gCo nb q n) : gBf n cc nb (fun q => gp_lt n q r ∨ gp_eq n q r) (nI (gCo nb q n)) F :=
  Or.inr ⟨q, h1, rfl, h3, Or.inl h4, fun q' a b => by
    rcases b with b | b
    · exact h5 q' a b
    · have e := gCo_eq (nb := nb) b
      rcases Nat.lt_or_ge (gCo nb q n) (gCo nb r n) with z | z
      · exact Or.inl (by omega)
      · exact Or.inr ⟨by omega, fun w => gp_asym h4 (gp_lt_l b w)⟩⟩
theorem gBf_next {n i j : Nat} {cc nb r r' : Nat → Nat} {l : Int32} {F : Nat → Int32} (hr : gp_pm n r) (hx : gp_nx n i j r r') (h : gBf n cc nb (fun q => gp_lt n q r ∨ gp_eq n q r) l F) : gBf n cc nb (fun q => gp_lt n q r') l F := by
  rcases h with ⟨h1, h2⟩ | ⟨q, h1, h2, h3, h4, h5⟩
  · exact Or.inl ⟨h1, fun q a b => h2 q a ((gp_nx_iff hr a.1 hx).mp b)⟩
  · exact Or.inr ⟨q, h1, h2, h3, (gp_nx_iff hr h1.1 hx).mpr h4, fun q' a b => h5 q' a ((gp_nx_iff hr a.1 hx).mp b)⟩
theorem gBf_end {n : Nat} {cc nb r : Nat → Nat} {l : Int32} {F : Nat → Int32} (hr : gp_pm n r) (hl : ∀ k, k + 1 < n → r (k + 1) < r k) (h : gBf n cc nb (fun q => gp_lt n q r ∨ gp_eq n q r) l F) : l = nI (gCo nb (gR n cc nb) n) ∧ ∀ i, i < n → F i = nI (gR n cc nb i) := by
  have all : ∀ q, gRi n cc q → gp_lt n q r ∨ gp_eq n q r := by
    intro q hq
    rcases gp_tri n q r with z | z | z
    · exact Or.inl z
    · exact Or.inr z
    · exact absurd z (gp_last hr hq.1 hl)
  rcases h with ⟨h1, h2⟩ | ⟨q, h1, h2, h3, h4, h5⟩
  · obtain ⟨q, hq⟩ := gFn_ex n cc nb
    exact absurd (all q hq.1) (h2 q hq.1)
  · have fq : gFn n cc nb q := ⟨h1, fun q' a => h5 q' a (all q' a)⟩
    have e := gFn_one fq (gR_fn n cc nb)
    exact ⟨by rw [h2, gCo_eq e], fun i hi => by rw [h3 i hi, e i hi]⟩
/-- what seek leaves -/
def gSk (S : gSt) (g : Nat) (t ol : Int32) (h hh : tm_Hp) : Prop := (∃ (f F : Nat → Int32), hh 27 = tm_o 5 [.int t, .ref 28, .ref 29, .ref 30, .ref 31, .ref 32, .int (nI (gCo (S.2.2 g) (gR (S.1 g) (S.2.1 g) (S.2.2 g)) (S.1 g))), .ref 33, .int ol, .ref 34, .ref 35, .ref 36, .ref 37] ∧ hh 31 = tm_i 7 f ∧ hh 32 = tm_i 7 F ∧ ∀ i, i < S.1 g → F i = nI (gR (S.1 g) (S.2.1 g) (S.2.2 g) i)) ∧ ∀ k, k ≠ 27 → k ≠ 31 → k ≠ 32 → hh k = h k
set_option maxRecDepth 20000 in
theorem c_R_seek (h0 : h 27 = tm_o 5 [.int t, .ref 28, .ref 29, .ref 30, .ref 31, .ref 32, .int l, .ref 33, .int ol, .ref 34, .ref 35, .ref 36, .ref 37]) (hd : gYd S h) (hs : gYs h) (hg : g < 3) : tm_C M_R_seek 2 0 [.ref 27, .int (nI g)] h (fun z hh => z = .inl none ∧ gSk S g t ol h hh) := by
  refine tm_C.by (L := [some (.ref 27), some (.int (nI g)), none, none, none]) rfl rfl rfl rfl rfl ?_
  obtain ⟨sz, y1, y2, y3⟩ := hd.sz hg
  have hok := hd.ok hg
  obtain ⟨⟨f, hr⟩, ⟨F0, hF0⟩, _⟩ := hs
  have e8 : ¬ bI true = 0 := by decide
  obtain ⟨Q, hQ⟩ : ∃ Q : tm_O → tm_Hp → Prop, Q = (fun z hh => z = .inl none ∧ gSk S g t ol h hh) := ⟨_, rfl⟩
  rw [← hQ]
  have hK : 32 < tm_K := by decide
  apply tm_run [11] 80
  simp (disch := first | assumption | omega) only [↓reduceIte, tm_w_i, tm_w_0, Bool.false_eq_true, tm_gI_0, tm_gI_s, tm_gA_0, tm_gA_s, tm_fv_0, tm_fv_s, tm_p1_e, tm_pA_e, tm_pJ_e, tm_pV_i, tm_pV_r, tm_cI_e, tm_cZ_e, tm_cJ_e, tm_cQ_e, tm_cO_e, tm_rq_e, List.set_cons_zero, List.set_cons_succ, List.contains_cons, List.contains_nil, Nat.reduceBEq, Bool.or_false, Bool.false_or, Bool.or_true, Bool.true_or, Bool.or_self, cond_true, cond_false, true_and, and_true, or_true, true_or, true_implies, false_implies, not_true_eq_false, not_false_eq_true, List.length_cons, List.length_nil, Option.toList_some, Option.toList_none, List.cons_append, List.nil_append, ws_R_seek_0, ws_R_seek_1, ws_R_seek_4, ws_R_seek_5, ws_R_seek_6, ws_R_seek_9, ws_R_seek_10, ws_R_seek_11, ws_R_seek_12, ws_R_seek_15, ws_R_seek_16, ws_R_seek_17, ws_R_seek_20, ws_R_seek_23, ws_R_seek_24, ws_R_seek_25, ws_R_seek_28, ws_R_seek_29, ws_R_seek_30, ws_R_seek_33, ws_R_seek_36, ws_R_seek_37, ws_R_seek_38, ws_R_seek_41, ws_R_seek_44, ws_R_seek_45, ws_R_seek_46, ws_R_seek_49, ws_R_seek_50, ws_R_seek_52, ws_R_seek_54, ws_R_seek_56, ws_R_seek_59, ws_R_seek_60, ws_R_seek_63, ws_R_seek_65, ws_R_seek_66, ws_R_seek_69, ws_R_seek_71, ws_R_seek_72, ws_R_seek_73, ws_R_seek_76, ws_R_seek_79, ws_R_seek_80, ws_R_seek_81, ws_R_seek_84, ws_R_seek_85, ws_R_seek_86, ws_R_seek_89, ws_R_seek_90, ws_R_seek_93, tm_up_s, tm_up_n, tm_up_up, nI_leI, nI_ltI, nI_eq, nI_cl, nI_in', ix_1shl, ix_or, ix_xor, nI_1, bI_0, bI_1, bI_F, pk_us, pk_un]
  refine kd_R_seek_1 h0 (Nat.le_of_ble_eq_true rfl) (by omega) (by omega) (c_R_begin h0 hr) ?_
  apply tm_run [11] 80
  simp (disch := first | assumption | omega) only [↓reduceIte, tm_w_i, tm_w_0, Bool.false_eq_true, tm_gI_0, tm_gI_s, tm_gA_0, tm_gA_s, tm_fv_0, tm_fv_s, tm_p1_e, tm_pA_e, tm_pJ_e, tm_pV_i, tm_pV_r, tm_cI_e, tm_cZ_e, tm_cJ_e, tm_cQ_e, tm_cO_e, tm_rq_e, List.set_cons_zero, List.set_cons_succ, List.contains_cons, List.contains_nil, Nat.reduceBEq, Bool.or_false, Bool.false_or, Bool.or_true, Bool.true_or, Bool.or_self, cond_true, cond_false, true_and, and_true, or_true, true_or, true_implies, false_implies, not_true_eq_false, not_false_eq_true, List.length_cons, List.length_nil, Option.toList_some, Option.toList_none, List.cons_append, List.nil_append, ws_R_seek_0, ws_R_seek_1, ws_R_seek_4, ws_R_seek_5, ws_R_seek_6, ws_R_seek_9, ws_R_seek_10, ws_R_seek_11, ws_R_seek_12, ws_R_seek_15, ws_R_seek_16, ws_R_seek_17, ws_R_seek_20, ws_R_seek_23, ws_R_seek_24, ws_R_seek_25, ws_R_seek_28, ws_R_seek_29, ws_R_seek_30, ws_R_seek_33, ws_R_seek_36, ws_R_seek_37, ws_R_seek_38, ws_R_seek_41, ws_R_seek_44, ws_R_seek_45, ws_R_seek_46, ws_R_seek_49, ws_R_seek_50, ws_R_seek_52, ws_R_seek_54, ws_R_seek_56, ws_R_seek_59, ws_R_seek_60, ws_R_seek_63, ws_R_seek_65, ws_R_seek_66, ws_R_seek_69, ws_R_seek_71, ws_R_seek_72, ws_R_seek_73, ws_R_seek_76, ws_R_seek_79, ws_R_seek_80, ws_R_seek_81, ws_R_seek_84, ws_R_seek_85, ws_R_seek_86, ws_R_seek_89, ws_R_seek_90, ws_R_seek_93, tm_up_s, tm_up_n, tm_up_up, nI_leI, nI_ltI, nI_eq, nI_cl, nI_in', ix_1shl, ix_or, ix_xor, nI_1, bI_0, bI_1, bI_F, pk_us, pk_un, h0]
  refine ⟨by decide, ?_⟩
  have key : ∀ (C : Nat) (r : Nat → Nat) (f F : Nat → Int32) (l' : Int32) (x3 x4 : Option Value) (H : tm_Hp), 8 ^ S.1 g ≤ gVl r (S.1 g) + C → gRw (S.1 g) r f → H 27 = tm_o 5 [.int t, .ref 28, .ref 29, .ref 30, .ref 31, .ref 32, .int l', .ref 33, .int ol, .ref 34, .ref 35, .ref 36, .ref 37] → H 31 = tm_i 7 f → H 32 = tm_i 7 F → (∀ k, k ≠ 27 → k ≠ 31 → k ≠ 32 → H k = h k) → gBf (S.1 g) (S.2.1 g) (S.2.2 g) (fun q => gp_lt (S.1 g) q r) l' F →
      tm_T M_R_seek 2 0 Q 0 11 [some (.ref 27), some (.int (nI g)), some (.int (bI true)), x3, x4] [] H := by
    intro C
    induction C with
    | zero =>
      intro r f F l' x3 x4 H hC hw
      have := gVl_lt (gp_8 y3 hw.1)
      omega
    | succ C ih =>
      intro r f F l' x3 x4 H hC hw H27 H31 H32 Hf hB
      have tail : ∀ (F : Nat → Int32) (l' : Int32) (x3 x4 : Option Value) (H : tm_Hp), H 27 = tm_o 5 [.int t, .ref 28, .ref 29, .ref 30, .ref 31, .ref 32, .int l', .ref 33, .int ol, .ref 34, .ref 35, .ref 36, .ref 37] → H 31 = tm_i 7 f → H 32 = tm_i 7 F → (∀ k, k ≠ 27 → k ≠ 31 → k ≠ 32 → H k = h k) → gBf (S.1 g) (S.2.1 g) (S.2.2 g) (fun q => gp_lt (S.1 g) q r ∨ gp_eq (S.1 g) q r) l' F →
          tm_T M_R_seek 2 0 Q 0 79 [some (.ref 27), some (.int (nI g)), some (.int (bI true)), x3, x4] [] H := by
        intro F l' x3 x4 H H27 H31 H32 Hf hB
        have H28 : H 28 = tm_i 3 sz := (Hf 28 (by decide) (by decide) (by decide)).trans y1
        apply tm_run [11] 80
        simp (disch := first | assumption | omega) only [↓reduceIte, tm_w_i, tm_w_0, Bool.false_eq_true, tm_gI_0, tm_gI_s, tm_gA_0, tm_gA_s, tm_fv_0, tm_fv_s, tm_p1_e, tm_pA_e, tm_pJ_e, tm_pV_i, tm_pV_r, tm_cI_e, tm_cZ_e, tm_cJ_e, tm_cQ_e, tm_cO_e, tm_rq_e, List.set_cons_zero, List.set_cons_succ, List.contains_cons, List.contains_nil, Nat.reduceBEq, Bool.or_false, Bool.false_or, Bool.or_true, Bool.true_or, Bool.or_self, cond_true, cond_false, true_and, and_true, or_true, true_or, true_implies, false_implies, not_true_eq_false, not_false_eq_true, List.length_cons, List.length_nil, Option.toList_some, Option.toList_none, List.cons_append, List.nil_append, ws_R_seek_0, ws_R_seek_1, ws_R_seek_4, ws_R_seek_5, ws_R_seek_6, ws_R_seek_9, ws_R_seek_10, ws_R_seek_11, ws_R_seek_12, ws_R_seek_15, ws_R_seek_16, ws_R_seek_17, ws_R_seek_20, ws_R_seek_23, ws_R_seek_24, ws_R_seek_25, ws_R_seek_28, ws_R_seek_29, ws_R_seek_30, ws_R_seek_33, ws_R_seek_36, ws_R_seek_37, ws_R_seek_38, ws_R_seek_41, ws_R_seek_44, ws_R_seek_45, ws_R_seek_46, ws_R_seek_49, ws_R_seek_50, ws_R_seek_52, ws_R_seek_54, ws_R_seek_56, ws_R_seek_59, ws_R_seek_60, ws_R_seek_63, ws_R_seek_65, ws_R_seek_66, ws_R_seek_69, ws_R_seek_71, ws_R_seek_72, ws_R_seek_73, ws_R_seek_76, ws_R_seek_79, ws_R_seek_80, ws_R_seek_81, ws_R_seek_84, ws_R_seek_85, ws_R_seek_86, ws_R_seek_89, ws_R_seek_90, ws_R_seek_93, tm_up_s, tm_up_n, tm_up_up, nI_leI, nI_ltI, nI_eq, nI_cl, nI_in', ix_1shl, ix_or, ix_xor, nI_1, bI_0, bI_1, bI_F, pk_us, pk_un, H27, H28, y2]
        refine kc_R_seek_86 H27 (Nat.le_of_ble_eq_true rfl) (by omega) (by omega) (c_R_next H27 H31 y3 hw) ?_ (fun k h1 ⟨_, _, e, _⟩ => nomatch e)
        rintro v0 hh ⟨b, f', z1, z2, z3⟩
        cases z1
        have G27 : hh 27 = tm_o 5 [.int t, .ref 28, .ref 29, .ref 30, .ref 31, .ref 32, .int l', .ref 33, .int ol, .ref 34, .ref 35, .ref 36, .ref 37] := by rw [z2, tm_up_n (by decide)]; exact H27
        have G31 : hh 31 = tm_i 7 f' := by rw [z2, tm_up_s]
        have G32 : hh 32 = tm_i 7 F := by rw [z2, tm_up_n (by decide)]; exact H32
        have Gf : ∀ k, k ≠ 27 → k ≠ 31 → k ≠ 32 → hh k = h k := fun k q1 q2 q3 => by rw [z2, tm_up_n q2]; exact Hf k q1 q2 q3
        cases b with
        | false =>
          obtain ⟨b1, b2⟩ := gBf_end hw.1 (z3.1 rfl).2 hB
          apply tm_run [11] 80
          simp (disch := first | assumption | omega) only [↓reduceIte, tm_w_i, tm_w_0, Bool.false_eq_true, tm_gI_0, tm_gI_s, tm_gA_0, tm_gA_s, tm_fv_0, tm_fv_s, tm_p1_e, tm_pA_e, tm_pJ_e, tm_pV_i, tm_pV_r, tm_cI_e, tm_cZ_e, tm_cJ_e, tm_cQ_e, tm_cO_e, tm_rq_e, List.set_cons_zero, List.set_cons_succ, List.contains_cons, List.contains_nil, Nat.reduceBEq, Bool.or_false, Bool.false_or, Bool.or_true, Bool.true_or, Bool.or_self, cond_true, cond_false, true_and, and_true, or_true, true_or, true_implies, false_implies, not_true_eq_false, not_false_eq_true, List.length_cons, List.length_nil, Option.toList_some, Option.toList_none, List.cons_append, List.nil_append, ws_R_seek_0, ws_R_seek_1, ws_R_seek_4, ws_R_seek_5, ws_R_seek_6, ws_R_seek_9, ws_R_seek_10, ws_R_seek_11, ws_R_seek_12, ws_R_seek_15, ws_R_seek_16, ws_R_seek_17, ws_R_seek_20, ws_R_seek_23, ws_R_seek_24, ws_R_seek_25, ws_R_seek_28, ws_R_seek_29, ws_R_seek_30, ws_R_seek_33, ws_R_seek_36, ws_R_seek_37, ws_R_seek_38, ws_R_seek_41, ws_R_seek_44, ws_R_seek_45, ws_R_seek_46, ws_R_seek_49, ws_R_seek_50, ws_R_seek_52, ws_R_seek_54, ws_R_seek_56, ws_R_seek_59, ws_R_seek_60, ws_R_seek_63, ws_R_seek_65, ws_R_seek_66, ws_R_seek_69, ws_R_seek_71, ws_R_seek_72, ws_R_seek_73, ws_R_seek_76, ws_R_seek_79, ws_R_seek_80, ws_R_seek_81, ws_R_seek_84, ws_R_seek_85, ws_R_seek_86, ws_R_seek_89, ws_R_seek_90, ws_R_seek_93, tm_up_s, tm_up_n, tm_up_up, nI_leI, nI_ltI, nI_eq, nI_cl, nI_in', ix_1shl, ix_or, ix_xor, nI_1, bI_0, bI_1, bI_F, pk_us, pk_un]
          apply tm_run [11] 80
          simp (disch := first | assumption | omega) only [↓reduceIte, tm_w_i, tm_w_0, Bool.false_eq_true, tm_gI_0, tm_gI_s, tm_gA_0, tm_gA_s, tm_fv_0, tm_fv_s, tm_p1_e, tm_pA_e, tm_pJ_e, tm_pV_i, tm_pV_r, tm_cI_e, tm_cZ_e, tm_cJ_e, tm_cQ_e, tm_cO_e, tm_rq_e, List.set_cons_zero, List.set_cons_succ, List.contains_cons, List.contains_nil, Nat.reduceBEq, Bool.or_false, Bool.false_or, Bool.or_true, Bool.true_or, Bool.or_self, cond_true, cond_false, true_and, and_true, or_true, true_or, true_implies, false_implies, not_true_eq_false, not_false_eq_true, List.length_cons, List.length_nil, Option.toList_some, Option.toList_none, List.cons_append, List.nil_append, ws_R_seek_0, ws_R_seek_1, ws_R_seek_4, ws_R_seek_5, ws_R_seek_6, ws_R_seek_9, ws_R_seek_10, ws_R_seek_11, ws_R_seek_12, ws_R_seek_15, ws_R_seek_16, ws_R_seek_17, ws_R_seek_20, ws_R_seek_23, ws_R_seek_24, ws_R_seek_25, ws_R_seek_28, ws_R_seek_29, ws_R_seek_30, ws_R_seek_33, ws_R_seek_36, ws_R_seek_37, ws_R_seek_38, ws_R_seek_41, ws_R_seek_44, ws_R_seek_45, ws_R_seek_46, ws_R_seek_49, ws_R_seek_50, ws_R_seek_52, ws_R_seek_54, ws_R_seek_56, ws_R_seek_59, ws_R_seek_60, ws_R_seek_63, ws_R_seek_65, ws_R_seek_66, ws_R_seek_69, ws_R_seek_71, ws_R_seek_72, ws_R_seek_73, ws_R_seek_76, ws_R_seek_79, ws_R_seek_80, ws_R_seek_81, ws_R_seek_84, ws_R_seek_85, ws_R_seek_86, ws_R_seek_89, ws_R_seek_90, ws_R_seek_93, tm_up_s, tm_up_n, tm_up_up, nI_leI, nI_ltI, nI_eq, nI_cl, nI_in', ix_1shl, ix_or, ix_xor, nI_1, bI_0, bI_1, bI_F, pk_us, pk_un, bI_f]
          rw [hQ]
          rw [b1] at G27
          exact ⟨rfl, ⟨f', F, G27, G31, G32, b2⟩, Gf⟩
        | true =>
          obtain ⟨r', i, j, q1, q2⟩ := z3.2 rfl
          apply tm_run [11] 80
          simp (disch := first | assumption | omega) only [↓reduceIte, tm_w_i, tm_w_0, Bool.false_eq_true, tm_gI_0, tm_gI_s, tm_gA_0, tm_gA_s, tm_fv_0, tm_fv_s, tm_p1_e, tm_pA_e, tm_pJ_e, tm_pV_i, tm_pV_r, tm_cI_e, tm_cZ_e, tm_cJ_e, tm_cQ_e, tm_cO_e, tm_rq_e, List.set_cons_zero, List.set_cons_succ, List.contains_cons, List.contains_nil, Nat.reduceBEq, Bool.or_false, Bool.false_or, Bool.or_true, Bool.true_or, Bool.or_self, cond_true, cond_false, true_and, and_true, or_true, true_or, true_implies, false_implies, not_true_eq_false, not_false_eq_true, List.length_cons, List.length_nil, Option.toList_some, Option.toList_none, List.cons_append, List.nil_append, ws_R_seek_0, ws_R_seek_1, ws_R_seek_4, ws_R_seek_5, ws_R_seek_6, ws_R_seek_9, ws_R_seek_10, ws_R_seek_11, ws_R_seek_12, ws_R_seek_15, ws_R_seek_16, ws_R_seek_17, ws_R_seek_20, ws_R_seek_23, ws_R_seek_24, ws_R_seek_25, ws_R_seek_28, ws_R_seek_29, ws_R_seek_30, ws_R_seek_33, ws_R_seek_36, ws_R_seek_37, ws_R_seek_38, ws_R_seek_41, ws_R_seek_44, ws_R_seek_45, ws_R_seek_46, ws_R_seek_49, ws_R_seek_50, ws_R_seek_52, ws_R_seek_54, ws_R_seek_56, ws_R_seek_59, ws_R_seek_60, ws_R_seek_63, ws_R_seek_65, ws_R_seek_66, ws_R_seek_69, ws_R_seek_71, ws_R_seek_72, ws_R_seek_73, ws_R_seek_76, ws_R_seek_79, ws_R_seek_80, ws_R_seek_81, ws_R_seek_84, ws_R_seek_85, ws_R_seek_86, ws_R_seek_89, ws_R_seek_90, ws_R_seek_93, tm_up_s, tm_up_n, tm_up_up, nI_leI, nI_ltI, nI_eq, nI_cl, nI_in', ix_1shl, ix_or, ix_xor, nI_1, bI_0, bI_1, bI_F, pk_us, pk_un]
          have hl := gVl_less (gp_8 y3 hw.1) (gp_nx_lt q2)
          exact ih r' f' F l' _ _ hh (by omega) q1 G27 G31 G32 Gf (gBf_next hw.1 q2 hB)
      have Hd : gYd S H := hd.fr (fun k hk => Hf k (by omega) (by omega) (by omega))
      apply tm_run [11, 79] 80
      simp (disch := first | assumption | omega) only [↓reduceIte, tm_w_i, tm_w_0, Bool.false_eq_true, tm_gI_0, tm_gI_s, tm_gA_0, tm_gA_s, tm_fv_0, tm_fv_s, tm_p1_e, tm_pA_e, tm_pJ_e, tm_pV_i, tm_pV_r, tm_cI_e, tm_cZ_e, tm_cJ_e, tm_cQ_e, tm_cO_e, tm_rq_e, List.set_cons_zero, List.set_cons_succ, List.contains_cons, List.contains_nil, Nat.reduceBEq, Bool.or_false, Bool.false_or, Bool.or_true, Bool.true_or, Bool.or_self, cond_true, cond_false, true_and, and_true, or_true, true_or, true_implies, false_implies, not_true_eq_false, not_false_eq_true, List.length_cons, List.length_nil, Option.toList_some, Option.toList_none, List.cons_append, List.nil_append, ws_R_seek_0, ws_R_seek_1, ws_R_seek_4, ws_R_seek_5, ws_R_seek_6, ws_R_seek_9, ws_R_seek_10, ws_R_seek_11, ws_R_seek_12, ws_R_seek_15, ws_R_seek_16, ws_R_seek_17, ws_R_seek_20, ws_R_seek_23, ws_R_seek_24, ws_R_seek_25, ws_R_seek_28, ws_R_seek_29, ws_R_seek_30, ws_R_seek_33, ws_R_seek_36, ws_R_seek_37, ws_R_seek_38, ws_R_seek_41, ws_R_seek_44, ws_R_seek_45, ws_R_seek_46, ws_R_seek_49, ws_R_seek_50, ws_R_seek_52, ws_R_seek_54, ws_R_seek_56, ws_R_seek_59, ws_R_seek_60, ws_R_seek_63, ws_R_seek_65, ws_R_seek_66, ws_R_seek_69, ws_R_seek_71, ws_R_seek_72, ws_R_seek_73, ws_R_seek_76, ws_R_seek_79, ws_R_seek_80, ws_R_seek_81, ws_R_seek_84, ws_R_seek_85, ws_R_seek_86, ws_R_seek_89, ws_R_seek_90, ws_R_seek_93, tm_up_s, tm_up_n, tm_up_up, nI_leI, nI_ltI, nI_eq, nI_cl, nI_in', ix_1shl, ix_or, ix_xor, nI_1, bI_0, bI_1, bI_F, pk_us, pk_un, e8]
      refine kc_R_seek_17 H27 (Nat.le_of_ble_eq_true rfl) (by omega) (by omega) (c_R_rises H27 Hd H31 hg hw) ?_ (fun k h1 ⟨⟨_, _, e⟩, _⟩ => nomatch e)
      rintro v0 hh ⟨⟨b, b1, b2⟩, b3⟩
      cases b2; cases b3
      rw [gRi_step hw.1] at b1
      cases b with
      | false =>
        apply tm_run [11, 79] 80
        simp (disch := first | assumption | omega) only [↓reduceIte, tm_w_i, tm_w_0, Bool.false_eq_true, tm_gI_0, tm_gI_s, tm_gA_0, tm_gA_s, tm_fv_0, tm_fv_s, tm_p1_e, tm_pA_e, tm_pJ_e, tm_pV_i, tm_pV_r, tm_cI_e, tm_cZ_e, tm_cJ_e, tm_cQ_e, tm_cO_e, tm_rq_e, List.set_cons_zero, List.set_cons_succ, List.contains_cons, List.contains_nil, Nat.reduceBEq, Bool.or_false, Bool.false_or, Bool.or_true, Bool.true_or, Bool.or_self, cond_true, cond_false, true_and, and_true, or_true, true_or, true_implies, false_implies, not_true_eq_false, not_false_eq_true, List.length_cons, List.length_nil, Option.toList_some, Option.toList_none, List.cons_append, List.nil_append, ws_R_seek_0, ws_R_seek_1, ws_R_seek_4, ws_R_seek_5, ws_R_seek_6, ws_R_seek_9, ws_R_seek_10, ws_R_seek_11, ws_R_seek_12, ws_R_seek_15, ws_R_seek_16, ws_R_seek_17, ws_R_seek_20, ws_R_seek_23, ws_R_seek_24, ws_R_seek_25, ws_R_seek_28, ws_R_seek_29, ws_R_seek_30, ws_R_seek_33, ws_R_seek_36, ws_R_seek_37, ws_R_seek_38, ws_R_seek_41, ws_R_seek_44, ws_R_seek_45, ws_R_seek_46, ws_R_seek_49, ws_R_seek_50, ws_R_seek_52, ws_R_seek_54, ws_R_seek_56, ws_R_seek_59, ws_R_seek_60, ws_R_seek_63, ws_R_seek_65, ws_R_seek_66, ws_R_seek_69, ws_R_seek_71, ws_R_seek_72, ws_R_seek_73, ws_R_seek_76, ws_R_seek_79, ws_R_seek_80, ws_R_seek_81, ws_R_seek_84, ws_R_seek_85, ws_R_seek_86, ws_R_seek_89, ws_R_seek_90, ws_R_seek_93, tm_up_s, tm_up_n, tm_up_up, nI_leI, nI_ltI, nI_eq, nI_cl, nI_in', ix_1shl, ix_or, ix_xor, nI_1, bI_0, bI_1, bI_F, pk_us, pk_un, bI_f]
        exact tail F l' _ _ H H27 H31 H32 Hf (gBf_keep hB (fun q => absurd (b1.mpr q) (by decide)))
      | true =>
        have hri := b1.mp rfl
        apply tm_run [11, 79] 80
        simp (disch := first | assumption | omega) only [↓reduceIte, tm_w_i, tm_w_0, Bool.false_eq_true, tm_gI_0, tm_gI_s, tm_gA_0, tm_gA_s, tm_fv_0, tm_fv_s, tm_p1_e, tm_pA_e, tm_pJ_e, tm_pV_i, tm_pV_r, tm_cI_e, tm_cZ_e, tm_cJ_e, tm_cQ_e, tm_cO_e, tm_rq_e, List.set_cons_zero, List.set_cons_succ, List.contains_cons, List.contains_nil, Nat.reduceBEq, Bool.or_false, Bool.false_or, Bool.or_true, Bool.true_or, Bool.or_self, cond_true, cond_false, true_and, and_true, or_true, true_or, true_implies, false_implies, not_true_eq_false, not_false_eq_true, List.length_cons, List.length_nil, Option.toList_some, Option.toList_none, List.cons_append, List.nil_append, ws_R_seek_0, ws_R_seek_1, ws_R_seek_4, ws_R_seek_5, ws_R_seek_6, ws_R_seek_9, ws_R_seek_10, ws_R_seek_11, ws_R_seek_12, ws_R_seek_15, ws_R_seek_16, ws_R_seek_17, ws_R_seek_20, ws_R_seek_23, ws_R_seek_24, ws_R_seek_25, ws_R_seek_28, ws_R_seek_29, ws_R_seek_30, ws_R_seek_33, ws_R_seek_36, ws_R_seek_37, ws_R_seek_38, ws_R_seek_41, ws_R_seek_44, ws_R_seek_45, ws_R_seek_46, ws_R_seek_49, ws_R_seek_50, ws_R_seek_52, ws_R_seek_54, ws_R_seek_56, ws_R_seek_59, ws_R_seek_60, ws_R_seek_63, ws_R_seek_65, ws_R_seek_66, ws_R_seek_69, ws_R_seek_71, ws_R_seek_72, ws_R_seek_73, ws_R_seek_76, ws_R_seek_79, ws_R_seek_80, ws_R_seek_81, ws_R_seek_84, ws_R_seek_85, ws_R_seek_86, ws_R_seek_89, ws_R_seek_90, ws_R_seek_93, tm_up_s, tm_up_n, tm_up_up, nI_leI, nI_ltI, nI_eq, nI_cl, nI_in', ix_1shl, ix_or, ix_xor, nI_1, bI_0, bI_1, bI_F, pk_us, pk_un, e8]
        refine kd_R_seek_25 H27 (Nat.le_of_ble_eq_true rfl) (by omega) (by omega) (c_R_code H27 Hd H31 hg hw) ?_
        have hcs := gCo_sm (nb := S.2.2 g) (t := r) y3
        -- the row is kept
        have put : (∀ F' : Nat → Int32, (∀ i, i < S.1 g → F' i = nI (r i)) → gBf (S.1 g) (S.2.1 g) (S.2.2 g) (fun q => gp_lt (S.1 g) q r ∨ gp_eq (S.1 g) q r) (nI (gCo (S.2.2 g) r (S.1 g))) F') →
            tm_T M_R_seek 2 0 Q 0 44 [some (.ref 27), some (.int (nI g)), some (.int (bI true)), some (.int (nI (gCo (S.2.2 g) r (S.1 g)))), x4] [] H := by
          intro hB2
          apply tm_run [11, 79, 52] 80
          simp (disch := first | assumption | omega) only [↓reduceIte, tm_w_i, tm_w_0, Bool.false_eq_true, tm_gI_0, tm_gI_s, tm_gA_0, tm_gA_s, tm_fv_0, tm_fv_s, tm_p1_e, tm_pA_e, tm_pJ_e, tm_pV_i, tm_pV_r, tm_cI_e, tm_cZ_e, tm_cJ_e, tm_cQ_e, tm_cO_e, tm_rq_e, List.set_cons_zero, List.set_cons_succ, List.contains_cons, List.contains_nil, Nat.reduceBEq, Bool.or_false, Bool.false_or, Bool.or_true, Bool.true_or, Bool.or_self, cond_true, cond_false, true_and, and_true, or_true, true_or, true_implies, false_implies, not_true_eq_false, not_false_eq_true, List.length_cons, List.length_nil, Option.toList_some, Option.toList_none, List.cons_append, List.nil_append, ws_R_seek_0, ws_R_seek_1, ws_R_seek_4, ws_R_seek_5, ws_R_seek_6, ws_R_seek_9, ws_R_seek_10, ws_R_seek_11, ws_R_seek_12, ws_R_seek_15, ws_R_seek_16, ws_R_seek_17, ws_R_seek_20, ws_R_seek_23, ws_R_seek_24, ws_R_seek_25, ws_R_seek_28, ws_R_seek_29, ws_R_seek_30, ws_R_seek_33, ws_R_seek_36, ws_R_seek_37, ws_R_seek_38, ws_R_seek_41, ws_R_seek_44, ws_R_seek_45, ws_R_seek_46, ws_R_seek_49, ws_R_seek_50, ws_R_seek_52, ws_R_seek_54, ws_R_seek_56, ws_R_seek_59, ws_R_seek_60, ws_R_seek_63, ws_R_seek_65, ws_R_seek_66, ws_R_seek_69, ws_R_seek_71, ws_R_seek_72, ws_R_seek_73, ws_R_seek_76, ws_R_seek_79, ws_R_seek_80, ws_R_seek_81, ws_R_seek_84, ws_R_seek_85, ws_R_seek_86, ws_R_seek_89, ws_R_seek_90, ws_R_seek_93, tm_up_s, tm_up_n, tm_up_up, nI_leI, nI_ltI, nI_eq, nI_cl, nI_in', ix_1shl, ix_or, ix_xor, nI_1, bI_0, bI_1, bI_F, pk_us, pk_un, H27]
          refine ⟨by decide, ?_⟩
          have cp : ∀ m k, k + m = 7 → tm_T M_R_seek 2 0 Q 0 52 [some (.ref 27), some (.int (nI g)), some (.int (bI true)), some (.int (nI (gCo (S.2.2 g) r (S.1 g)))), some (.int (nI k))] [] (tm_up (tm_up H 27 (tm_o 5 [.int t, .ref 28, .ref 29, .ref 30, .ref 31, .ref 32, .int (nI (gCo (S.2.2 g) r (S.1 g))), .ref 33, .int ol, .ref 34, .ref 35, .ref 36, .ref 37])) 32 (tm_i 7 (gPr f F k))) := by
            intro m
            induction m with
            | zero =>
              intro k hk
              obtain rfl : k = 7 := by omega
              apply tm_run [11, 79, 52] 80
              simp (disch := first | assumption | omega) only [↓reduceIte, tm_w_i, tm_w_0, Bool.false_eq_true, tm_gI_0, tm_gI_s, tm_gA_0, tm_gA_s, tm_fv_0, tm_fv_s, tm_p1_e, tm_pA_e, tm_pJ_e, tm_pV_i, tm_pV_r, tm_cI_e, tm_cZ_e, tm_cJ_e, tm_cQ_e, tm_cO_e, tm_rq_e, List.set_cons_zero, List.set_cons_succ, List.contains_cons, List.contains_nil, Nat.reduceBEq, Bool.or_false, Bool.false_or, Bool.or_true, Bool.true_or, Bool.or_self, cond_true, cond_false, true_and, and_true, or_true, true_or, true_implies, false_implies, not_true_eq_false, not_false_eq_true, List.length_cons, List.length_nil, Option.toList_some, Option.toList_none, List.cons_append, List.nil_append, ws_R_seek_0, ws_R_seek_1, ws_R_seek_4, ws_R_seek_5, ws_R_seek_6, ws_R_seek_9, ws_R_seek_10, ws_R_seek_11, ws_R_seek_12, ws_R_seek_15, ws_R_seek_16, ws_R_seek_17, ws_R_seek_20, ws_R_seek_23, ws_R_seek_24, ws_R_seek_25, ws_R_seek_28, ws_R_seek_29, ws_R_seek_30, ws_R_seek_33, ws_R_seek_36, ws_R_seek_37, ws_R_seek_38, ws_R_seek_41, ws_R_seek_44, ws_R_seek_45, ws_R_seek_46, ws_R_seek_49, ws_R_seek_50, ws_R_seek_52, ws_R_seek_54, ws_R_seek_56, ws_R_seek_59, ws_R_seek_60, ws_R_seek_63, ws_R_seek_65, ws_R_seek_66, ws_R_seek_69, ws_R_seek_71, ws_R_seek_72, ws_R_seek_73, ws_R_seek_76, ws_R_seek_79, ws_R_seek_80, ws_R_seek_81, ws_R_seek_84, ws_R_seek_85, ws_R_seek_86, ws_R_seek_89, ws_R_seek_90, ws_R_seek_93, tm_up_s, tm_up_n, tm_up_up, nI_leI, nI_ltI, nI_eq, nI_cl, nI_in', ix_1shl, ix_or, ix_xor, nI_1, bI_0, bI_1, bI_F, pk_us, pk_un, i_7, Nat.le_refl]
              refine tail _ _ _ _ _ (by rw [tm_up_n (by decide), tm_up_s]) (by rw [tm_up_n (by decide), tm_up_n (by decide)]; exact H31) (tm_up_s _ _ _) (fun k q1 q2 q3 => by rw [tm_up_n q3, tm_up_n q1]; exact Hf k q1 q2 q3) (hB2 _ (fun i hi => ?_))
              rw [gPr_in (by omega)]; exact hw.2.1 i (by omega)
            | succ m ihm =>
              intro k hk
              have hlt : ¬ 7 ≤ k := by omega
              have := ihm (k + 1) (by omega)
              rw [← gPr_upd f F k] at this
              apply tm_run [11, 79, 52] 80
              simp (disch := first | assumption | omega) only [↓reduceIte, tm_w_i, tm_w_0, Bool.false_eq_true, tm_gI_0, tm_gI_s, tm_gA_0, tm_gA_s, tm_fv_0, tm_fv_s, tm_p1_e, tm_pA_e, tm_pJ_e, tm_pV_i, tm_pV_r, tm_cI_e, tm_cZ_e, tm_cJ_e, tm_cQ_e, tm_cO_e, tm_rq_e, List.set_cons_zero, List.set_cons_succ, List.contains_cons, List.contains_nil, Nat.reduceBEq, Bool.or_false, Bool.false_or, Bool.or_true, Bool.true_or, Bool.or_self, cond_true, cond_false, true_and, and_true, or_true, true_or, true_implies, false_implies, not_true_eq_false, not_false_eq_true, List.length_cons, List.length_nil, Option.toList_some, Option.toList_none, List.cons_append, List.nil_append, ws_R_seek_0, ws_R_seek_1, ws_R_seek_4, ws_R_seek_5, ws_R_seek_6, ws_R_seek_9, ws_R_seek_10, ws_R_seek_11, ws_R_seek_12, ws_R_seek_15, ws_R_seek_16, ws_R_seek_17, ws_R_seek_20, ws_R_seek_23, ws_R_seek_24, ws_R_seek_25, ws_R_seek_28, ws_R_seek_29, ws_R_seek_30, ws_R_seek_33, ws_R_seek_36, ws_R_seek_37, ws_R_seek_38, ws_R_seek_41, ws_R_seek_44, ws_R_seek_45, ws_R_seek_46, ws_R_seek_49, ws_R_seek_50, ws_R_seek_52, ws_R_seek_54, ws_R_seek_56, ws_R_seek_59, ws_R_seek_60, ws_R_seek_63, ws_R_seek_65, ws_R_seek_66, ws_R_seek_69, ws_R_seek_71, ws_R_seek_72, ws_R_seek_73, ws_R_seek_76, ws_R_seek_79, ws_R_seek_80, ws_R_seek_81, ws_R_seek_84, ws_R_seek_85, ws_R_seek_86, ws_R_seek_89, ws_R_seek_90, ws_R_seek_93, tm_up_s, tm_up_n, tm_up_up, nI_leI, nI_ltI, nI_eq, nI_cl, nI_in', ix_1shl, ix_or, ix_xor, nI_1, bI_0, bI_1, bI_F, pk_us, pk_un, i_7, hlt, H31, hK]
              exact this
          have := cp 7 0 (by omega)
          rw [gPr_0, tm_up_id ((tm_up_n (by decide)).trans H32)] at this
          exact this
        rcases hB with ⟨p1, p2⟩ | ⟨q, p1, p2, p3, p4, p5⟩
        · have hm : (-1 : Int32) < 0 := by decide
          have := put (fun F' hF' => gBf_first (F := F) p2 hri hF')
          rw [p1] at H27
          apply tm_run [11, 79, 44] 80
          simp (disch := first | assumption | omega) only [↓reduceIte, tm_w_i, tm_w_0, Bool.false_eq_true, tm_gI_0, tm_gI_s, tm_gA_0, tm_gA_s, tm_fv_0, tm_fv_s, tm_p1_e, tm_pA_e, tm_pJ_e, tm_pV_i, tm_pV_r, tm_cI_e, tm_cZ_e, tm_cJ_e, tm_cQ_e, tm_cO_e, tm_rq_e, List.set_cons_zero, List.set_cons_succ, List.contains_cons, List.contains_nil, Nat.reduceBEq, Bool.or_false, Bool.false_or, Bool.or_true, Bool.true_or, Bool.or_self, cond_true, cond_false, true_and, and_true, or_true, true_or, true_implies, false_implies, not_true_eq_false, not_false_eq_true, List.length_cons, List.length_nil, Option.toList_some, Option.toList_none, List.cons_append, List.nil_append, ws_R_seek_0, ws_R_seek_1, ws_R_seek_4, ws_R_seek_5, ws_R_seek_6, ws_R_seek_9, ws_R_seek_10, ws_R_seek_11, ws_R_seek_12, ws_R_seek_15, ws_R_seek_16, ws_R_seek_17, ws_R_seek_20, ws_R_seek_23, ws_R_seek_24, ws_R_seek_25, ws_R_seek_28, ws_R_seek_29, ws_R_seek_30, ws_R_seek_33, ws_R_seek_36, ws_R_seek_37, ws_R_seek_38, ws_R_seek_41, ws_R_seek_44, ws_R_seek_45, ws_R_seek_46, ws_R_seek_49, ws_R_seek_50, ws_R_seek_52, ws_R_seek_54, ws_R_seek_56, ws_R_seek_59, ws_R_seek_60, ws_R_seek_63, ws_R_seek_65, ws_R_seek_66, ws_R_seek_69, ws_R_seek_71, ws_R_seek_72, ws_R_seek_73, ws_R_seek_76, ws_R_seek_79, ws_R_seek_80, ws_R_seek_81, ws_R_seek_84, ws_R_seek_85, ws_R_seek_86, ws_R_seek_89, ws_R_seek_90, ws_R_seek_93, tm_up_s, tm_up_n, tm_up_up, nI_leI, nI_ltI, nI_eq, nI_cl, nI_in', ix_1shl, ix_or, ix_xor, nI_1, bI_0, bI_1, bI_F, pk_us, pk_un, H27, hm]
          exact this
        · have hcq := gCo_sm (nb := S.2.2 g) (t := q) y3
          have hm : ¬ nI (gCo (S.2.2 g) q (S.1 g)) < 0 := nI_pos (by omega)
          have H27' := H27
          rw [p2] at H27'
          apply tm_run [11, 79, 44] 80
          simp (disch := first | assumption | omega) only [↓reduceIte, tm_w_i, tm_w_0, Bool.false_eq_true, tm_gI_0, tm_gI_s, tm_gA_0, tm_gA_s, tm_fv_0, tm_fv_s, tm_p1_e, tm_pA_e, tm_pJ_e, tm_pV_i, tm_pV_r, tm_cI_e, tm_cZ_e, tm_cJ_e, tm_cQ_e, tm_cO_e, tm_rq_e, List.set_cons_zero, List.set_cons_succ, List.contains_cons, List.contains_nil, Nat.reduceBEq, Bool.or_false, Bool.false_or, Bool.or_true, Bool.true_or, Bool.or_self, cond_true, cond_false, true_and, and_true, or_true, true_or, true_implies, false_implies, not_true_eq_false, not_false_eq_true, List.length_cons, List.length_nil, Option.toList_some, Option.toList_none, List.cons_append, List.nil_append, ws_R_seek_0, ws_R_seek_1, ws_R_seek_4, ws_R_seek_5, ws_R_seek_6, ws_R_seek_9, ws_R_seek_10, ws_R_seek_11, ws_R_seek_12, ws_R_seek_15, ws_R_seek_16, ws_R_seek_17, ws_R_seek_20, ws_R_seek_23, ws_R_seek_24, ws_R_seek_25, ws_R_seek_28, ws_R_seek_29, ws_R_seek_30, ws_R_seek_33, ws_R_seek_36, ws_R_seek_37, ws_R_seek_38, ws_R_seek_41, ws_R_seek_44, ws_R_seek_45, ws_R_seek_46, ws_R_seek_49, ws_R_seek_50, ws_R_seek_52, ws_R_seek_54, ws_R_seek_56, ws_R_seek_59, ws_R_seek_60, ws_R_seek_63, ws_R_seek_65, ws_R_seek_66, ws_R_seek_69, ws_R_seek_71, ws_R_seek_72, ws_R_seek_73, ws_R_seek_76, ws_R_seek_79, ws_R_seek_80, ws_R_seek_81, ws_R_seek_84, ws_R_seek_85, ws_R_seek_86, ws_R_seek_89, ws_R_seek_90, ws_R_seek_93, tm_up_s, tm_up_n, tm_up_up, nI_leI, nI_ltI, nI_eq, nI_cl, nI_in', ix_1shl, ix_or, ix_xor, nI_1, bI_0, bI_1, bI_F, pk_us, pk_un, H27', hm]
          refine ⟨fun z => ?_, fun z => put (fun F' hF' => gBf_less p5 hri (by omega) hF')⟩
          have := gBf_more p1 p3 p4 p5 (show ¬ gCo (S.2.2 g) r (S.1 g) < gCo (S.2.2 g) q (S.1 g) by omega)
          rw [← p2] at this
          exact tail F l' _ _ H H27 H31 H32 Hf this
  refine key (8 ^ S.1 g) (fun i => i) (gPr nI f 7) F0 (-1) none none _ (by omega) gRw_id (tm_up_s _ _ _) ?_ ?_ (fun k q1 q2 q3 => ?_) (Or.inl ⟨rfl, fun q hq => gp_id_first hq.1⟩)
  · rw [tm_up_n (by decide), tm_up_s]
  · rw [tm_up_n (by decide), tm_up_n (by decide)]; exact hF0
  · rw [tm_up_n q1, tm_up_n q2]
end CH
