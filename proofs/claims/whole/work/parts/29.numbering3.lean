section BO
variable {h : tm_Hp} {p a b n m vs ps tr : Nat} {cc nb t : Nat → Nat} {V P T : Nat → Int32} {x0 : Int32}
def gNg (m vs ps tr : Nat) (h0 h : tm_Hp) : Prop := ∀ k, k ≠ m → k ≠ vs → k ≠ ps → k ≠ tr → h k = h0 k
/-- the numbering r is told in the world -/
def gNt (n m vs ps tr : Nat) (nb r : Nat → Nat) (h : tm_Hp) : Prop := ∃ V P T : Nat → Int32, h m = tm_o 2 [.int (nI (gCo nb r n)), .ref vs, .ref ps, .ref tr] ∧ h vs = tm_i 7 V ∧ h ps = tm_i 7 P ∧ h tr = tm_i 7 T ∧ (∀ i, i < n → V i = nI (r i)) ∧ ∀ i, i < n → P (r i) = nI i
theorem gMin_0 {r : Nat → Nat} : gMin n nb (gSx n cc t 0) r ↔ gFn n cc nb r :=
  ⟨fun h => ⟨h.1.1, fun r' hr' => h.2 r' ⟨hr', fun i hi => absurd hi (Nat.not_lt_zero i)⟩⟩, fun h => ⟨⟨h.1, fun i hi => absurd hi (Nat.not_lt_zero i)⟩, fun r' hr' => h.2 r' hr'.1⟩⟩
set_option maxRecDepth 20000 in
theorem c_U_find (hg : gG h p a b n cc nb) (hm : h m = tm_o 2 [.int x0, .ref vs, .ref ps, .ref tr]) (hV : h vs = tm_i 7 V) (hP : h ps = tm_i 7 P) (hT : h tr = tm_i 7 T) (hK1 : vs < tm_K) (hK2 : tr < tm_K) (hK3 : ps < tm_K) (m1 : vs ≠ p) (m2 : vs ≠ a) (m3 : vs ≠ b) (m4 : vs ≠ m) (n1 : tr ≠ p) (n2 : tr ≠ a) (n3 : tr ≠ b) (n4 : tr ≠ m) (n5 : vs ≠ tr) (n6 : m ≠ p) (n7 : m ≠ a) (n8 : m ≠ b) (l1 : ps ≠ p) (l2 : ps ≠ a) (l3 : ps ≠ b) (l4 : ps ≠ m) (l5 : ps ≠ vs) (l6 : ps ≠ tr) :
    tm_C M_U_find 12 0 [.ref m, .ref p] h (fun z hh => z = .inl none ∧ gNg m vs ps tr h hh ∧ ∃ r, gFn n cc nb r ∧ gNt n m vs ps tr nb r hh) := by
  have hok : gOk n cc nb := by obtain ⟨_, _, _, _, _, _, _, q⟩ := hg; exact q
  have hn := hok.1
  have hp : h p = tm_o 1 [.int (nI n), .ref a, .ref b] := by obtain ⟨c, f, hp, _⟩ := hg; exact hp
  refine tm_C.by (L := [some (.ref m), some (.ref p), none]) rfl rfl rfl rfl rfl ?_
  have e0 : (2147483647 : Int32) = nI 2147483647 := by decide
  apply tm_run [19] 80
  simp (disch := first | assumption | omega) only [↓reduceIte, tm_w_i, tm_w_0, Bool.false_eq_true, tm_gI_0, tm_gI_s, tm_gA_0, tm_gA_s, tm_fv_0, tm_fv_s, tm_p1_e, tm_pA_e, tm_pJ_e, tm_pV_i, tm_pV_r, tm_cI_e, tm_cZ_e, tm_cJ_e, tm_cQ_e, tm_cO_e, tm_rq_e, List.set_cons_zero, List.set_cons_succ, List.contains_cons, List.contains_nil, Nat.reduceBEq, Bool.or_false, Bool.false_or, Bool.or_true, Bool.true_or, Bool.or_self, cond_true, cond_false, true_and, and_true, or_true, true_or, true_implies, false_implies, not_true_eq_false, not_false_eq_true, List.length_cons, List.length_nil, Option.toList_some, Option.toList_none, List.cons_append, List.nil_append, ws_U_find_0, ws_U_find_1, ws_U_find_3, ws_U_find_6, ws_U_find_7, ws_U_find_8, ws_U_find_9, ws_U_find_10, ws_U_find_13, ws_U_find_14, ws_U_find_17, ws_U_find_18, ws_U_find_19, ws_U_find_20, ws_U_find_21, ws_U_find_24, ws_U_find_27, ws_U_find_28, ws_U_find_31, ws_U_find_32, ws_U_find_35, ws_U_find_36, ws_U_find_37, ws_U_find_38, ws_U_find_39, ws_U_find_42, ws_U_find_45, tm_up_s, tm_up_n, tm_up_up, nI_leI, nI_ltI, nI_eq, nI_cl, nI_in', ix_1shl, ix_or, ix_xor, nI_1, bI_0, bI_1, bI_F, pk_us, pk_un, hm, e0]
  refine ⟨by decide, ?_⟩
  have hg1 : gG (tm_up h m (tm_o 2 [.int (nI 2147483647), .ref vs, .ref ps, .ref tr])) p a b n cc nb := hg.up n6 n7 n8
  refine kd_U_find_10 ((tm_up_n n6.symm).trans hp) (Nat.le_of_ble_eq_true rfl) (by omega) (by omega) (c_G_all ((tm_up_n n6.symm).trans hp) hn) ?_
  have l0 : 2 ^ n - 1 < 128 := by
    have : 2 ^ n ≤ 2 ^ 7 := Nat.pow_le_pow_right (by decide) hn
    omega
  apply tm_run [19] 80
  simp (disch := first | assumption | omega) only [↓reduceIte, tm_w_i, tm_w_0, Bool.false_eq_true, tm_gI_0, tm_gI_s, tm_gA_0, tm_gA_s, tm_fv_0, tm_fv_s, tm_p1_e, tm_pA_e, tm_pJ_e, tm_pV_i, tm_pV_r, tm_cI_e, tm_cZ_e, tm_cJ_e, tm_cQ_e, tm_cO_e, tm_rq_e, List.set_cons_zero, List.set_cons_succ, List.contains_cons, List.contains_nil, Nat.reduceBEq, Bool.or_false, Bool.false_or, Bool.or_true, Bool.true_or, Bool.or_self, cond_true, cond_false, true_and, and_true, or_true, true_or, true_implies, false_implies, not_true_eq_false, not_false_eq_true, List.length_cons, List.length_nil, Option.toList_some, Option.toList_none, List.cons_append, List.nil_append, ws_U_find_0, ws_U_find_1, ws_U_find_3, ws_U_find_6, ws_U_find_7, ws_U_find_8, ws_U_find_9, ws_U_find_10, ws_U_find_13, ws_U_find_14, ws_U_find_17, ws_U_find_18, ws_U_find_19, ws_U_find_20, ws_U_find_21, ws_U_find_24, ws_U_find_27, ws_U_find_28, ws_U_find_31, ws_U_find_32, ws_U_find_35, ws_U_find_36, ws_U_find_37, ws_U_find_38, ws_U_find_39, ws_U_find_42, ws_U_find_45, tm_up_s, tm_up_n, tm_up_up, nI_leI, nI_ltI, nI_eq, nI_cl, nI_in', ix_1shl, ix_or, ix_xor, nI_1, bI_0, bI_1, bI_F, pk_us, pk_un, i_0]
  obtain ⟨r, hr⟩ := gFn_ex n cc nb
  have hcs := gCo_sm (nb := nb) (t := r) hn
  refine kc_U_find_14 (tm_up_s _ _ _) (Nat.le_of_ble_eq_true rfl) (by omega) (by omega) (c_U_fill (ps := ps) hok hK1 hK2 m1 m2 m3 m4 n1 n2 n3 n4 n5 n6 n7 n8 n 0 (2 ^ n - 1) 2147483647 (fun _ => 0) _ _ _ (by omega) hg1 (tm_up_s _ _ _) ((tm_up_n m4).trans hV) ((tm_up_n n4).trans hT) (fun i hi => absurd hi (Nat.not_lt_zero i)) (gVp_0 n cc _) l0 (fun v hv => ?_) (by decide)) ?_ (fun k h1 ⟨e, _⟩ => nomatch e)
  · rw [Nat.testBit_two_pow_sub_one]
    exact ⟨fun _ i hi => absurd hi (Nat.not_lt_zero i), fun _ => decide_eq_true hv⟩
  · rintro v0 hh ⟨z1, z2, w2, V2, T2, z3, z4, z5, z6, z7, z8⟩
    cases z1
    obtain ⟨q1, q2⟩ := (z8 r (gMin_0.mpr hr)).1 (by omega)
    subst q1
    apply tm_run [19] 80
    simp (disch := first | assumption | omega) only [↓reduceIte, tm_w_i, tm_w_0, Bool.false_eq_true, tm_gI_0, tm_gI_s, tm_gA_0, tm_gA_s, tm_fv_0, tm_fv_s, tm_p1_e, tm_pA_e, tm_pJ_e, tm_pV_i, tm_pV_r, tm_cI_e, tm_cZ_e, tm_cJ_e, tm_cQ_e, tm_cO_e, tm_rq_e, List.set_cons_zero, List.set_cons_succ, List.contains_cons, List.contains_nil, Nat.reduceBEq, Bool.or_false, Bool.false_or, Bool.or_true, Bool.true_or, Bool.or_self, cond_true, cond_false, true_and, and_true, or_true, true_or, true_implies, false_implies, not_true_eq_false, not_false_eq_true, List.length_cons, List.length_nil, Option.toList_some, Option.toList_none, List.cons_append, List.nil_append, ws_U_find_0, ws_U_find_1, ws_U_find_3, ws_U_find_6, ws_U_find_7, ws_U_find_8, ws_U_find_9, ws_U_find_10, ws_U_find_13, ws_U_find_14, ws_U_find_17, ws_U_find_18, ws_U_find_19, ws_U_find_20, ws_U_find_21, ws_U_find_24, ws_U_find_27, ws_U_find_28, ws_U_find_31, ws_U_find_32, ws_U_find_35, ws_U_find_36, ws_U_find_37, ws_U_find_38, ws_U_find_39, ws_U_find_42, ws_U_find_45, tm_up_s, tm_up_n, tm_up_up, nI_leI, nI_ltI, nI_eq, nI_cl, nI_in', ix_1shl, ix_or, ix_xor, nI_1, bI_0, bI_1, bI_F, pk_us, pk_un]
    have hP2 : hh ps = tm_i 7 P := (z2 ps l4 l5 l6).trans ((tm_up_n l4).trans hP)
    have hp2 : hh p = tm_o 1 [.int (nI n), .ref a, .ref b] := (z2 p n6.symm m1.symm n1.symm).trans ((tm_up_n n6.symm).trans hp)
    have key : ∀ (l i : Nat) (P2 : Nat → Int32), i + l = n → (∀ j, j < i → P2 (r j) = nI j) → tm_T M_U_find 12 0 (fun z hh => z = .inl none ∧ gNg m vs ps tr h hh ∧ ∃ r, gFn n cc nb r ∧ gNt n m vs ps tr nb r hh) 0 19 [some (.ref m), some (.ref p), some (.int (nI i))] [] (tm_up hh ps (tm_i 7 P2)) := by
      intro l
      induction l with
      | zero =>
        intro i P2 hi hP2
        obtain rfl : i = n := by omega
        apply tm_run [19] 80
        simp (disch := first | assumption | omega) only [↓reduceIte, tm_w_i, tm_w_0, Bool.false_eq_true, tm_gI_0, tm_gI_s, tm_gA_0, tm_gA_s, tm_fv_0, tm_fv_s, tm_p1_e, tm_pA_e, tm_pJ_e, tm_pV_i, tm_pV_r, tm_cI_e, tm_cZ_e, tm_cJ_e, tm_cQ_e, tm_cO_e, tm_rq_e, List.set_cons_zero, List.set_cons_succ, List.contains_cons, List.contains_nil, Nat.reduceBEq, Bool.or_false, Bool.false_or, Bool.or_true, Bool.true_or, Bool.or_self, cond_true, cond_false, true_and, and_true, or_true, true_or, true_implies, false_implies, not_true_eq_false, not_false_eq_true, List.length_cons, List.length_nil, Option.toList_some, Option.toList_none, List.cons_append, List.nil_append, ws_U_find_0, ws_U_find_1, ws_U_find_3, ws_U_find_6, ws_U_find_7, ws_U_find_8, ws_U_find_9, ws_U_find_10, ws_U_find_13, ws_U_find_14, ws_U_find_17, ws_U_find_18, ws_U_find_19, ws_U_find_20, ws_U_find_21, ws_U_find_24, ws_U_find_27, ws_U_find_28, ws_U_find_31, ws_U_find_32, ws_U_find_35, ws_U_find_36, ws_U_find_37, ws_U_find_38, ws_U_find_39, ws_U_find_42, ws_U_find_45, tm_up_s, tm_up_n, tm_up_up, nI_leI, nI_ltI, nI_eq, nI_cl, nI_in', ix_1shl, ix_or, ix_xor, nI_1, bI_0, bI_1, bI_F, pk_us, pk_un, hp2, Nat.le_refl]
        refine ⟨fun k a1 a2 a3 a4 => ?_, r, hr, V2, P2, T2, (tm_up_n l4.symm).trans z3, (tm_up_n l5.symm).trans z4, tm_up_s _ _ _, (tm_up_n l6.symm).trans z5, q2, hP2⟩
        rw [tm_up_n a3, z2 k a1 a2 a4, tm_up_n a1]
      | succ l ih =>
        intro i P2 hi hP2
        have hlt : ¬ n ≤ i := by omega
        have e1 := q2 i (by omega)
        have e2 := hr.1.1.1 i (by omega)
        apply tm_run [19] 80
        simp (disch := first | assumption | omega) only [↓reduceIte, tm_w_i, tm_w_0, Bool.false_eq_true, tm_gI_0, tm_gI_s, tm_gA_0, tm_gA_s, tm_fv_0, tm_fv_s, tm_p1_e, tm_pA_e, tm_pJ_e, tm_pV_i, tm_pV_r, tm_cI_e, tm_cZ_e, tm_cJ_e, tm_cQ_e, tm_cO_e, tm_rq_e, List.set_cons_zero, List.set_cons_succ, List.contains_cons, List.contains_nil, Nat.reduceBEq, Bool.or_false, Bool.false_or, Bool.or_true, Bool.true_or, Bool.or_self, cond_true, cond_false, true_and, and_true, or_true, true_or, true_implies, false_implies, not_true_eq_false, not_false_eq_true, List.length_cons, List.length_nil, Option.toList_some, Option.toList_none, List.cons_append, List.nil_append, ws_U_find_0, ws_U_find_1, ws_U_find_3, ws_U_find_6, ws_U_find_7, ws_U_find_8, ws_U_find_9, ws_U_find_10, ws_U_find_13, ws_U_find_14, ws_U_find_17, ws_U_find_18, ws_U_find_19, ws_U_find_20, ws_U_find_21, ws_U_find_24, ws_U_find_27, ws_U_find_28, ws_U_find_31, ws_U_find_32, ws_U_find_35, ws_U_find_36, ws_U_find_37, ws_U_find_38, ws_U_find_39, ws_U_find_42, ws_U_find_45, tm_up_s, tm_up_n, tm_up_up, nI_leI, nI_ltI, nI_eq, nI_cl, nI_in', ix_1shl, ix_or, ix_xor, nI_1, bI_0, bI_1, bI_F, pk_us, pk_un, hp2, hlt, z3, z4, e1, hK3]
        refine ih (i + 1) _ (by omega) (fun j hj => ?_)
        by_cases e : j = i
        · rw [e, pk_us]
        · rw [pk_un (fun q => e (hr.1.1.2 j i (by omega) (by omega) q))]
          exact hP2 j (by omega)
    have := key n 0 P (by omega) (fun j hj => absurd hj (Nat.not_lt_zero j))
    rw [tm_up_id hP2] at this
    exact this
end BO
