section BN
variable {h : tm_Hp} {p a b n m vs ps tr : Nat} {cc nb t : Nat → Nat} {V P T : Nat → Int32} {x0 : Value}
theorem gTr_le : ∀ k, k ≤ 7 → gTr k ≤ 21 := by decide
theorem gCo_sm {k : Nat} (hk : k ≤ 7) : gCo nb t k < 2 ^ 21 := Nat.lt_of_lt_of_le (gCo_lt nb t k) (Nat.pow_le_pow_right (by decide) (gTr_le k hk))
theorem g_cor {c k x : Nat} (hx : x < 2 ^ k) : c * 2 ^ k ||| x = c * 2 ^ k + x := by
  have := Nat.two_pow_add_eq_or_of_lt hx c
  rw [Nat.mul_comm] at this
  exact this.symm
def gNf (m vs tr : Nat) (h0 h : tm_Hp) : Prop := ∀ k, k ≠ m → k ≠ vs → k ≠ tr → h k = h0 k
/-- what fill leaves of least and vertices -/
def gFp (n : Nat) (cc nb t : Nat → Nat) (k w w' : Nat) (V V' : Nat → Int32) : Prop := ∀ r, gMin n nb (gSx n cc t k) r → (gCo nb r n < w → w' = gCo nb r n ∧ ∀ i, i < n → V' i = nI (r i)) ∧ (¬ gCo nb r n < w → w' = w ∧ V' = V)
/-- under way: those below v tried -/
def gFw (n : Nat) (cc nb t : Nat → Nat) (k v w w' : Nat) (V V' : Nat → Int32) : Prop := ∀ r, gMin n nb (gSx n cc t k) r → (gCo nb r n < w → (v ≤ r k → gCo nb r n < w') ∧ (r k < v → w' = gCo nb r n ∧ ∀ i, i < n → V' i = nI (r i))) ∧ (¬ gCo nb r n < w → w' = w ∧ V' = V)
theorem gFw_0 {k w : Nat} : gFw n cc nb t k 0 w w V V := fun r _ => ⟨fun h => ⟨fun _ => h, fun q => absurd q (Nat.not_lt_zero _)⟩, fun _ => ⟨rfl, rfl⟩⟩
theorem gFw_end {k w w' : Nat} {V V' : Nat → Int32} (hk : k < n) (h : gFw n cc nb t k n w w' V V') : gFp n cc nb t k w w' V V' := fun r hr => ⟨fun q => ((h r hr).1 q).2 (hr.1.1.1.1 k hk), (h r hr).2⟩
theorem gFw_skip {k v w w' : Nat} {V V' : Nat → Int32} (h : gFw n cc nb t k v w w' V V') (hs : ∀ r, gMin n nb (gSx n cc t k) r → r k ≠ v) : gFw n cc nb t k (v + 1) w w' V V' := fun r hr =>
  ⟨fun q => ⟨fun z => ((h r hr).1 q).1 (by omega), fun z => ((h r hr).1 q).2 (by have := hs r hr; omega)⟩, (h r hr).2⟩
theorem gFw_try {k v w w' w'' : Nat} {V V' V'' : Nat → Int32} (hk : k < n) (hvp : gVp n cc (gUd t k v) (k + 1)) (h : gFw n cc nb t k v w w' V V') (hp : gFp n cc nb (gUd t k v) (k + 1) w' w'' V' V'') : gFw n cc nb t k (v + 1) w w'' V V'' := by
  intro r hr
  obtain ⟨h1, h2⟩ := h r hr
  obtain ⟨r0, hr0⟩ := gMin_ex (n := n) (nb := nb) (gVp_ex (n - (k + 1)) (k + 1) _ (by omega) hvp)
  have hin := gSx_in.mp hr0.1
  have hle := hr.2 r0 hin.1
  have hco : gCo nb r n ≤ gCo nb r0 n := by rcases hle with q | q <;> omega
  by_cases e : r k = v
  · have hrv : gMin n nb (gSx n cc (gUd t k v) (k + 1)) r := ⟨gSx_in.mpr ⟨hr.1, e⟩, fun r' hr' => hr.2 r' (gSx_in.mp hr').1⟩
    obtain ⟨p1, p2⟩ := hp r hrv
    refine ⟨fun q => ⟨fun z => by omega, fun _ => p1 ((h1 q).1 (by omega))⟩, fun q => ?_⟩
    obtain ⟨q1, q2⟩ := h2 q
    obtain ⟨q3, q4⟩ := p2 (by omega)
    exact ⟨q3.trans q1, q4.trans q2⟩
  · obtain ⟨p1, p2⟩ := hp r0 hr0
    refine ⟨fun q => ⟨fun z => ?_, fun z => ?_⟩, fun q => ?_⟩
    · have hlt : gp_lt n r0 r := ⟨k, hk, fun i hi => (hin.1.2 i hi).trans (hr.1.2 i hi).symm, by rw [hin.2]; omega⟩
      have hs : gCo nb r n < gCo nb r0 n := by
        rcases hle with q | ⟨_, q⟩
        · exact q
        · exact absurd hlt q
      have hw := (h1 q).1 (by omega)
      by_cases g : gCo nb r0 n < w'
      · rw [(p1 g).1]; exact hs
      · rw [(p2 g).1]; exact hw
    · obtain ⟨z1, z2⟩ := (h1 q).2 (by omega)
      obtain ⟨q3, q4⟩ := p2 (by omega)
      exact ⟨q3.trans z1, fun i hi => by rw [q4]; exact z2 i hi⟩
    · obtain ⟨q1, q2⟩ := h2 q
      obtain ⟨q3, q4⟩ := p2 (by omega)
      exact ⟨q3.trans q1, q4.trans q2⟩
/-- what fill leaves -/
def gFl (n m vs ps tr : Nat) (cc nb t : Nat → Nat) (k w : Nat) (V T : Nat → Int32) (h hh : tm_Hp) : Prop := gNf m vs tr h hh ∧ ∃ (w' : Nat) (V' T' : Nat → Int32), hh m = tm_o 2 [.int (nI w'), .ref vs, .ref ps, .ref tr] ∧ hh vs = tm_i 7 V' ∧ hh tr = tm_i 7 T' ∧ (∀ i, i < k → T' i = T i) ∧ w' < 2 ^ 31 ∧ gFp n cc nb t k w w' V V'
set_option maxRecDepth 20000 in
theorem c_U_fill (hok : gOk n cc nb) (hK1 : vs < tm_K) (hK2 : tr < tm_K) (m1 : vs ≠ p) (m2 : vs ≠ a) (m3 : vs ≠ b) (m4 : vs ≠ m) (n1 : tr ≠ p) (n2 : tr ≠ a) (n3 : tr ≠ b) (n4 : tr ≠ m) (n5 : vs ≠ tr) (n6 : m ≠ p) (n7 : m ≠ a) (n8 : m ≠ b) :
    ∀ (j k left w : Nat) (t : Nat → Nat) (V T : Nat → Int32) (h : tm_Hp), k + j = n → gG h p a b n cc nb → h m = tm_o 2 [.int (nI w), .ref vs, .ref ps, .ref tr] → h vs = tm_i 7 V → h tr = tm_i 7 T → (∀ i, i < k → T i = nI (t i)) → gVp n cc t k → left < 128 → (∀ v, v < n → (left.testBit v = true ↔ ∀ i, i < k → t i ≠ v)) → w < 2 ^ 31 →
      tm_C M_U_fill (j + 4) 0 [.ref m, .ref p, .int (nI k), .int (nI left), .int (nI (gCo nb t k))] h (fun z hh => z = .inl none ∧ gFl n m vs ps tr cc nb t k w V T h hh) := by
  have hn := hok.1
  intro j
  induction j with
  | zero =>
    intro k left w t V T h hk hg hm hV hT ht hvp hl hlb hw
    obtain rfl : k = n := by omega
    obtain ⟨c, f, hp, ha, hb, hc, hf, _⟩ := hg
    have hcs := gCo_sm (nb := nb) (t := t) hn
    refine tm_C.by (L := [some (.ref m), some (.ref p), some (.int (nI k)), some (.int (nI left)), some (.int (nI (gCo nb t k))), none, none, none, none]) rfl rfl rfl rfl rfl ?_
    apply tm_run [] 80
    simp (disch := first | assumption | omega) only [↓reduceIte, tm_w_i, tm_w_0, Bool.false_eq_true, tm_gI_0, tm_gI_s, tm_gA_0, tm_gA_s, tm_fv_0, tm_fv_s, tm_p1_e, tm_pA_e, tm_pJ_e, tm_pV_i, tm_pV_r, tm_cI_e, tm_cZ_e, tm_cJ_e, tm_cQ_e, tm_cO_e, tm_rq_e, List.set_cons_zero, List.set_cons_succ, List.contains_cons, List.contains_nil, Nat.reduceBEq, Bool.or_false, Bool.false_or, Bool.or_true, Bool.true_or, Bool.or_self, cond_true, cond_false, true_and, and_true, or_true, true_or, true_implies, false_implies, not_true_eq_false, not_false_eq_true, List.length_cons, List.length_nil, Option.toList_some, Option.toList_none, List.cons_append, List.nil_append, ws_U_fill_0, ws_U_fill_1, ws_U_fill_2, ws_U_fill_5, ws_U_fill_8, ws_U_fill_9, ws_U_fill_10, ws_U_fill_13, ws_U_fill_15, ws_U_fill_18, ws_U_fill_19, ws_U_fill_20, ws_U_fill_21, ws_U_fill_24, ws_U_fill_26, ws_U_fill_27, ws_U_fill_28, ws_U_fill_29, ws_U_fill_31, ws_U_fill_34, ws_U_fill_36, ws_U_fill_38, ws_U_fill_39, ws_U_fill_40, ws_U_fill_42, ws_U_fill_43, ws_U_fill_45, ws_U_fill_47, ws_U_fill_48, ws_U_fill_51, ws_U_fill_52, ws_U_fill_55, ws_U_fill_56, ws_U_fill_59, ws_U_fill_60, ws_U_fill_63, ws_U_fill_64, ws_U_fill_65, ws_U_fill_67, ws_U_fill_69, ws_U_fill_70, ws_U_fill_73, ws_U_fill_76, ws_U_fill_78, ws_U_fill_80, ws_U_fill_83, ws_U_fill_86, ws_U_fill_87, ws_U_fill_88, ws_U_fill_89, ws_U_fill_91, ws_U_fill_94, ws_U_fill_96, ws_U_fill_99, ws_U_fill_100, ws_U_fill_102, ws_U_fill_104, ws_U_fill_107, ws_U_fill_110, ws_U_fill_111, ws_U_fill_114, ws_U_fill_115, ws_U_fill_117, ws_U_fill_118, ws_U_fill_119, ws_U_fill_120, ws_U_fill_121, ws_U_fill_122, ws_U_fill_123, ws_U_fill_124, ws_U_fill_125, ws_U_fill_127, ws_U_fill_128, ws_U_fill_129, ws_U_fill_131, ws_U_fill_134, ws_U_fill_137, ws_U_fill_140, tm_up_s, tm_up_n, tm_up_up, nI_leI, nI_ltI, nI_eq, nI_cl, nI_in', ix_1shl, ix_or, ix_xor, nI_1, bI_0, bI_1, bI_F, pk_us, pk_un, hp, Nat.lt_irrefl]
    refine kd_U_fill_15 hm (Nat.le_of_ble_eq_true rfl) (by omega) (by omega) (c_U_keepIfLess hm hV hT hK1 hK2 m4 n4 hn (by omega) hw) ?_
    apply tm_run [] 80
    simp (disch := first | assumption | omega) only [↓reduceIte, tm_w_i, tm_w_0, Bool.false_eq_true, tm_gI_0, tm_gI_s, tm_gA_0, tm_gA_s, tm_fv_0, tm_fv_s, tm_p1_e, tm_pA_e, tm_pJ_e, tm_pV_i, tm_pV_r, tm_cI_e, tm_cZ_e, tm_cJ_e, tm_cQ_e, tm_cO_e, tm_rq_e, List.set_cons_zero, List.set_cons_succ, List.contains_cons, List.contains_nil, Nat.reduceBEq, Bool.or_false, Bool.false_or, Bool.or_true, Bool.true_or, Bool.or_self, cond_true, cond_false, true_and, and_true, or_true, true_or, true_implies, false_implies, not_true_eq_false, not_false_eq_true, List.length_cons, List.length_nil, Option.toList_some, Option.toList_none, List.cons_append, List.nil_append, ws_U_fill_0, ws_U_fill_1, ws_U_fill_2, ws_U_fill_5, ws_U_fill_8, ws_U_fill_9, ws_U_fill_10, ws_U_fill_13, ws_U_fill_15, ws_U_fill_18, ws_U_fill_19, ws_U_fill_20, ws_U_fill_21, ws_U_fill_24, ws_U_fill_26, ws_U_fill_27, ws_U_fill_28, ws_U_fill_29, ws_U_fill_31, ws_U_fill_34, ws_U_fill_36, ws_U_fill_38, ws_U_fill_39, ws_U_fill_40, ws_U_fill_42, ws_U_fill_43, ws_U_fill_45, ws_U_fill_47, ws_U_fill_48, ws_U_fill_51, ws_U_fill_52, ws_U_fill_55, ws_U_fill_56, ws_U_fill_59, ws_U_fill_60, ws_U_fill_63, ws_U_fill_64, ws_U_fill_65, ws_U_fill_67, ws_U_fill_69, ws_U_fill_70, ws_U_fill_73, ws_U_fill_76, ws_U_fill_78, ws_U_fill_80, ws_U_fill_83, ws_U_fill_86, ws_U_fill_87, ws_U_fill_88, ws_U_fill_89, ws_U_fill_91, ws_U_fill_94, ws_U_fill_96, ws_U_fill_99, ws_U_fill_100, ws_U_fill_102, ws_U_fill_104, ws_U_fill_107, ws_U_fill_110, ws_U_fill_111, ws_U_fill_114, ws_U_fill_115, ws_U_fill_117, ws_U_fill_118, ws_U_fill_119, ws_U_fill_120, ws_U_fill_121, ws_U_fill_122, ws_U_fill_123, ws_U_fill_124, ws_U_fill_125, ws_U_fill_127, ws_U_fill_128, ws_U_fill_129, ws_U_fill_131, ws_U_fill_134, ws_U_fill_137, ws_U_fill_140, tm_up_s, tm_up_n, tm_up_up, nI_leI, nI_ltI, nI_eq, nI_cl, nI_in', ix_1shl, ix_or, ix_xor, nI_1, bI_0, bI_1, bI_F, pk_us, pk_un]
    have hco : ∀ r, gSx k cc t k r → gCo nb r k = gCo nb t k := fun r hr => gCo_eq hr.2
    by_cases e : gCo nb t k < w
    · rw [if_pos e]
      refine ⟨fun x a1 a2 a3 => by rw [tm_up_n a2, tm_up_n a1], gCo nb t k, gPr T V k, T, by rw [tm_up_n m4.symm, tm_up_s], tm_up_s _ _ _, by rw [tm_up_n n5.symm, tm_up_n n4]; exact hT, fun _ _ => rfl, by omega, fun r hr => ?_⟩
      have e1 := hco r hr.1
      refine ⟨fun _ => ⟨e1.symm, fun i hi => ?_⟩, fun q => by omega⟩
      rw [gPr_in hi, ht i hi, hr.1.2 i hi]
    · rw [if_neg e]
      refine ⟨fun x _ _ _ => rfl, w, V, T, hm, hV, hT, fun _ _ => rfl, hw, fun r hr => ?_⟩
      have e1 := hco r hr.1
      exact ⟨fun q => by omega, fun _ => ⟨rfl, rfl⟩⟩
  | succ j ih =>
    intro k left w t V T h hk hg hm hV hT ht hvp hl hlb hw
    have hg0 := hg
    have hkn : k < n := by omega
    have ht2 : ∀ i, i < k → T i = nI (t i) ∧ t i < n := fun i hi => ⟨ht i hi, hvp.2.1 i hi⟩
    have hp : h p = tm_o 1 [.int (nI n), .ref a, .ref b] := by obtain ⟨c, f, hp, _⟩ := hg; exact hp
    have hcs := gCo_sm (nb := nb) (t := t) (k := k) (by omega)
    refine tm_C.by (L := [some (.ref m), some (.ref p), some (.int (nI k)), some (.int (nI left)), some (.int (nI (gCo nb t k))), none, none, none, none]) rfl rfl rfl rfl rfl ?_
    apply tm_run [67] 80
    simp (disch := first | assumption | omega) only [↓reduceIte, tm_w_i, tm_w_0, Bool.false_eq_true, tm_gI_0, tm_gI_s, tm_gA_0, tm_gA_s, tm_fv_0, tm_fv_s, tm_p1_e, tm_pA_e, tm_pJ_e, tm_pV_i, tm_pV_r, tm_cI_e, tm_cZ_e, tm_cJ_e, tm_cQ_e, tm_cO_e, tm_rq_e, List.set_cons_zero, List.set_cons_succ, List.contains_cons, List.contains_nil, Nat.reduceBEq, Bool.or_false, Bool.false_or, Bool.or_true, Bool.true_or, Bool.or_self, cond_true, cond_false, true_and, and_true, or_true, true_or, true_implies, false_implies, not_true_eq_false, not_false_eq_true, List.length_cons, List.length_nil, Option.toList_some, Option.toList_none, List.cons_append, List.nil_append, ws_U_fill_0, ws_U_fill_1, ws_U_fill_2, ws_U_fill_5, ws_U_fill_8, ws_U_fill_9, ws_U_fill_10, ws_U_fill_13, ws_U_fill_15, ws_U_fill_18, ws_U_fill_19, ws_U_fill_20, ws_U_fill_21, ws_U_fill_24, ws_U_fill_26, ws_U_fill_27, ws_U_fill_28, ws_U_fill_29, ws_U_fill_31, ws_U_fill_34, ws_U_fill_36, ws_U_fill_38, ws_U_fill_39, ws_U_fill_40, ws_U_fill_42, ws_U_fill_43, ws_U_fill_45, ws_U_fill_47, ws_U_fill_48, ws_U_fill_51, ws_U_fill_52, ws_U_fill_55, ws_U_fill_56, ws_U_fill_59, ws_U_fill_60, ws_U_fill_63, ws_U_fill_64, ws_U_fill_65, ws_U_fill_67, ws_U_fill_69, ws_U_fill_70, ws_U_fill_73, ws_U_fill_76, ws_U_fill_78, ws_U_fill_80, ws_U_fill_83, ws_U_fill_86, ws_U_fill_87, ws_U_fill_88, ws_U_fill_89, ws_U_fill_91, ws_U_fill_94, ws_U_fill_96, ws_U_fill_99, ws_U_fill_100, ws_U_fill_102, ws_U_fill_104, ws_U_fill_107, ws_U_fill_110, ws_U_fill_111, ws_U_fill_114, ws_U_fill_115, ws_U_fill_117, ws_U_fill_118, ws_U_fill_119, ws_U_fill_120, ws_U_fill_121, ws_U_fill_122, ws_U_fill_123, ws_U_fill_124, ws_U_fill_125, ws_U_fill_127, ws_U_fill_128, ws_U_fill_129, ws_U_fill_131, ws_U_fill_134, ws_U_fill_137, ws_U_fill_140, tm_up_s, tm_up_n, tm_up_up, nI_leI, nI_ltI, nI_eq, nI_cl, nI_in', ix_1shl, ix_or, ix_xor, nI_1, bI_0, bI_1, bI_F, pk_us, pk_un, hp, hkn]
    obtain ⟨vv, vv1, vv2, vv3⟩ := gVp_pick (n := n) (cc := cc) (t := t) hkn
    refine kc_U_fill_21 (Nat.le_of_ble_eq_true rfl) (by omega) (by omega) (c_U_leastColoured hg0 hl ⟨vv, vv1, (hlb vv vv1).mpr vv2⟩) ?_ (fun k h1 ⟨⟨_, _, e⟩, _⟩ => nomatch e)
    rintro v0 hh ⟨⟨s, hs, e2⟩, e3⟩
    cases e2; cases e3
    have hsl := hs.1
    have hsv : s.testBit vv = true := (hs.2 vv vv1).mpr ⟨(hlb vv vv1).mpr vv2, fun w hw hb => vv3 w hw ((hlb w hw).mp hb)⟩
    apply tm_run [67] 80
    simp (disch := first | assumption | omega) only [↓reduceIte, tm_w_i, tm_w_0, Bool.false_eq_true, tm_gI_0, tm_gI_s, tm_gA_0, tm_gA_s, tm_fv_0, tm_fv_s, tm_p1_e, tm_pA_e, tm_pJ_e, tm_pV_i, tm_pV_r, tm_cI_e, tm_cZ_e, tm_cJ_e, tm_cQ_e, tm_cO_e, tm_rq_e, List.set_cons_zero, List.set_cons_succ, List.contains_cons, List.contains_nil, Nat.reduceBEq, Bool.or_false, Bool.false_or, Bool.or_true, Bool.true_or, Bool.or_self, cond_true, cond_false, true_and, and_true, or_true, true_or, true_implies, false_implies, not_true_eq_false, not_false_eq_true, List.length_cons, List.length_nil, Option.toList_some, Option.toList_none, List.cons_append, List.nil_append, ws_U_fill_0, ws_U_fill_1, ws_U_fill_2, ws_U_fill_5, ws_U_fill_8, ws_U_fill_9, ws_U_fill_10, ws_U_fill_13, ws_U_fill_15, ws_U_fill_18, ws_U_fill_19, ws_U_fill_20, ws_U_fill_21, ws_U_fill_24, ws_U_fill_26, ws_U_fill_27, ws_U_fill_28, ws_U_fill_29, ws_U_fill_31, ws_U_fill_34, ws_U_fill_36, ws_U_fill_38, ws_U_fill_39, ws_U_fill_40, ws_U_fill_42, ws_U_fill_43, ws_U_fill_45, ws_U_fill_47, ws_U_fill_48, ws_U_fill_51, ws_U_fill_52, ws_U_fill_55, ws_U_fill_56, ws_U_fill_59, ws_U_fill_60, ws_U_fill_63, ws_U_fill_64, ws_U_fill_65, ws_U_fill_67, ws_U_fill_69, ws_U_fill_70, ws_U_fill_73, ws_U_fill_76, ws_U_fill_78, ws_U_fill_80, ws_U_fill_83, ws_U_fill_86, ws_U_fill_87, ws_U_fill_88, ws_U_fill_89, ws_U_fill_91, ws_U_fill_94, ws_U_fill_96, ws_U_fill_99, ws_U_fill_100, ws_U_fill_102, ws_U_fill_104, ws_U_fill_107, ws_U_fill_110, ws_U_fill_111, ws_U_fill_114, ws_U_fill_115, ws_U_fill_117, ws_U_fill_118, ws_U_fill_119, ws_U_fill_120, ws_U_fill_121, ws_U_fill_122, ws_U_fill_123, ws_U_fill_124, ws_U_fill_125, ws_U_fill_127, ws_U_fill_128, ws_U_fill_129, ws_U_fill_131, ws_U_fill_134, ws_U_fill_137, ws_U_fill_140, tm_up_s, tm_up_n, tm_up_up, nI_leI, nI_ltI, nI_eq, nI_cl, nI_in', ix_1shl, ix_or, ix_xor, nI_1, bI_0, bI_1, bI_F, pk_us, pk_un]
    refine kc_U_fill_31 hm (Nat.le_of_ble_eq_true rfl) (by omega) (by omega) (c_U_leastBits hg0 hm hT ht2 (by omega) hsl ⟨vv, vv1, hsv⟩) ?_ (fun k h1 ⟨⟨_, _, e⟩, _⟩ => nomatch e)
    rintro v0 hh ⟨⟨x, hx, e2⟩, e3⟩
    cases e2; cases e3
    obtain ⟨⟨uu, uu1, uu2, uu3⟩, hxm⟩ := hx
    have hxk : x < 2 ^ k := by rw [← uu3]; exact gBt_lt nb t uu k
    have hck : gCo nb t k * 2 ^ k + x < 2 ^ 21 := by
      have := gCo_sm (nb := nb) (t := gUd t k uu) (k := k + 1) (by omega)
      rw [gCo, gCo_eq (t := gUd t k uu) (t' := t) (fun i hi => gUd_n (by omega)), gUd_s, gBt_eq (t := gUd t k uu) (t' := t) (fun i hi => gUd_n (by omega)), uu3] at this
      exact this
    have e0 : nI (gCo nb t k) <<< (nI k &&& 31) = nI (gCo nb t k * 2 ^ k) := ix_shl (by omega) (by omega)
    apply tm_run [67] 80
    simp (disch := first | assumption | omega) only [↓reduceIte, tm_w_i, tm_w_0, Bool.false_eq_true, tm_gI_0, tm_gI_s, tm_gA_0, tm_gA_s, tm_fv_0, tm_fv_s, tm_p1_e, tm_pA_e, tm_pJ_e, tm_pV_i, tm_pV_r, tm_cI_e, tm_cZ_e, tm_cJ_e, tm_cQ_e, tm_cO_e, tm_rq_e, List.set_cons_zero, List.set_cons_succ, List.contains_cons, List.contains_nil, Nat.reduceBEq, Bool.or_false, Bool.false_or, Bool.or_true, Bool.true_or, Bool.or_self, cond_true, cond_false, true_and, and_true, or_true, true_or, true_implies, false_implies, not_true_eq_false, not_false_eq_true, List.length_cons, List.length_nil, Option.toList_some, Option.toList_none, List.cons_append, List.nil_append, ws_U_fill_0, ws_U_fill_1, ws_U_fill_2, ws_U_fill_5, ws_U_fill_8, ws_U_fill_9, ws_U_fill_10, ws_U_fill_13, ws_U_fill_15, ws_U_fill_18, ws_U_fill_19, ws_U_fill_20, ws_U_fill_21, ws_U_fill_24, ws_U_fill_26, ws_U_fill_27, ws_U_fill_28, ws_U_fill_29, ws_U_fill_31, ws_U_fill_34, ws_U_fill_36, ws_U_fill_38, ws_U_fill_39, ws_U_fill_40, ws_U_fill_42, ws_U_fill_43, ws_U_fill_45, ws_U_fill_47, ws_U_fill_48, ws_U_fill_51, ws_U_fill_52, ws_U_fill_55, ws_U_fill_56, ws_U_fill_59, ws_U_fill_60, ws_U_fill_63, ws_U_fill_64, ws_U_fill_65, ws_U_fill_67, ws_U_fill_69, ws_U_fill_70, ws_U_fill_73, ws_U_fill_76, ws_U_fill_78, ws_U_fill_80, ws_U_fill_83, ws_U_fill_86, ws_U_fill_87, ws_U_fill_88, ws_U_fill_89, ws_U_fill_91, ws_U_fill_94, ws_U_fill_96, ws_U_fill_99, ws_U_fill_100, ws_U_fill_102, ws_U_fill_104, ws_U_fill_107, ws_U_fill_110, ws_U_fill_111, ws_U_fill_114, ws_U_fill_115, ws_U_fill_117, ws_U_fill_118, ws_U_fill_119, ws_U_fill_120, ws_U_fill_121, ws_U_fill_122, ws_U_fill_123, ws_U_fill_124, ws_U_fill_125, ws_U_fill_127, ws_U_fill_128, ws_U_fill_129, ws_U_fill_131, ws_U_fill_134, ws_U_fill_137, ws_U_fill_140, tm_up_s, tm_up_n, tm_up_up, nI_leI, nI_ltI, nI_eq, nI_cl, nI_in', ix_1shl, ix_or, ix_xor, nI_1, bI_0, bI_1, bI_F, pk_us, pk_un, e0, g_cor hxk, hm, hp]
    refine kd_U_fill_56 (Nat.le_of_ble_eq_true rfl) (by omega) (by omega) (c_U_bitsBehind hn hkn) ?_
    have hbb : gTr n - gTr (k + 1) = gTd (k + 1) j := by
      have := gTr_add (k + 1) j
      rw [show k + 1 + j = n by omega] at this
      omega
    have hb32 : gTr n - gTr (k + 1) < 32 := by
      have := gTr_le n hn
      omega
    have e1 : ((nI w).toUInt32 >>> ((nI (gTr n - gTr (k + 1))).toUInt32 &&& Int32.toUInt32 31)).toInt32 = nI (w / 2 ^ (gTr n - gTr (k + 1))) := ix_ushr (by omega) hb32
    have hwd : w / 2 ^ (gTr n - gTr (k + 1)) < 2 ^ 31 := Nat.lt_of_le_of_lt (Nat.div_le_self _ _) hw
    have lf : ∀ v, v < n → s.testBit v = true → (∀ i, i < k → t i ≠ v) := fun v hv hb => (hlb v hv).mp ((hs.2 v hv).mp hb).1
    have cand : ∀ r, gSx n cc t k r → s.testBit (r k) = true := by
      intro r hr
      obtain ⟨q1, q2⟩ := gSx_col hr hkn
      exact (hs.2 (r k) (hr.1.1.1 k hkn)).mpr ⟨(hlb _ (hr.1.1.1 k hkn)).mpr q1, fun w hw hb => q2 w hw ((hlb w hw).mp hb)⟩
    have scol : ∀ u v, u < n → v < n → s.testBit u = true → s.testBit v = true → cc u = cc v := by
      intro u v hu hv hb hb'
      have h1 := ((hs.2 u hu).mp hb).2 v hv ((hs.2 v hv).mp hb').1
      have h2 := ((hs.2 v hv).mp hb').2 u hu ((hs.2 u hu).mp hb).1
      omega
    have hbt : ∀ r, gMin n nb (gSx n cc t k) r → gBt nb t (r k) k = x := by
      intro r hr
      have h1 := hxm (r k) (hr.1.1.1.1 k hkn) (cand r hr.1)
      have h2 := gMin_bits hr hkn uu1 (lf uu uu1 uu2) (scol _ _ uu1 (hr.1.1.1.1 k hkn) uu2 (cand r hr.1))
      omega
    apply tm_run [67] 80
    simp (disch := first | assumption | omega) only [↓reduceIte, tm_w_i, tm_w_0, Bool.false_eq_true, tm_gI_0, tm_gI_s, tm_gA_0, tm_gA_s, tm_fv_0, tm_fv_s, tm_p1_e, tm_pA_e, tm_pJ_e, tm_pV_i, tm_pV_r, tm_cI_e, tm_cZ_e, tm_cJ_e, tm_cQ_e, tm_cO_e, tm_rq_e, List.set_cons_zero, List.set_cons_succ, List.contains_cons, List.contains_nil, Nat.reduceBEq, Bool.or_false, Bool.false_or, Bool.or_true, Bool.true_or, Bool.or_self, cond_true, cond_false, true_and, and_true, or_true, true_or, true_implies, false_implies, not_true_eq_false, not_false_eq_true, List.length_cons, List.length_nil, Option.toList_some, Option.toList_none, List.cons_append, List.nil_append, ws_U_fill_0, ws_U_fill_1, ws_U_fill_2, ws_U_fill_5, ws_U_fill_8, ws_U_fill_9, ws_U_fill_10, ws_U_fill_13, ws_U_fill_15, ws_U_fill_18, ws_U_fill_19, ws_U_fill_20, ws_U_fill_21, ws_U_fill_24, ws_U_fill_26, ws_U_fill_27, ws_U_fill_28, ws_U_fill_29, ws_U_fill_31, ws_U_fill_34, ws_U_fill_36, ws_U_fill_38, ws_U_fill_39, ws_U_fill_40, ws_U_fill_42, ws_U_fill_43, ws_U_fill_45, ws_U_fill_47, ws_U_fill_48, ws_U_fill_51, ws_U_fill_52, ws_U_fill_55, ws_U_fill_56, ws_U_fill_59, ws_U_fill_60, ws_U_fill_63, ws_U_fill_64, ws_U_fill_65, ws_U_fill_67, ws_U_fill_69, ws_U_fill_70, ws_U_fill_73, ws_U_fill_76, ws_U_fill_78, ws_U_fill_80, ws_U_fill_83, ws_U_fill_86, ws_U_fill_87, ws_U_fill_88, ws_U_fill_89, ws_U_fill_91, ws_U_fill_94, ws_U_fill_96, ws_U_fill_99, ws_U_fill_100, ws_U_fill_102, ws_U_fill_104, ws_U_fill_107, ws_U_fill_110, ws_U_fill_111, ws_U_fill_114, ws_U_fill_115, ws_U_fill_117, ws_U_fill_118, ws_U_fill_119, ws_U_fill_120, ws_U_fill_121, ws_U_fill_122, ws_U_fill_123, ws_U_fill_124, ws_U_fill_125, ws_U_fill_127, ws_U_fill_128, ws_U_fill_129, ws_U_fill_131, ws_U_fill_134, ws_U_fill_137, ws_U_fill_140, tm_up_s, tm_up_n, tm_up_up, nI_leI, nI_ltI, nI_eq, nI_cl, nI_in', ix_1shl, ix_or, ix_xor, nI_1, bI_0, bI_1, bI_F, pk_us, pk_un, e1]
    refine ⟨fun _ => ?_, fun hgt => ?_⟩
    · have key : ∀ (l v w' : Nat) (V' T' : Nat → Int32) (hh : tm_Hp), v + l = n → gNf m vs tr h hh → hh m = tm_o 2 [.int (nI w'), .ref vs, .ref ps, .ref tr] → hh vs = tm_i 7 V' → hh tr = tm_i 7 T' → (∀ i, i < k → T' i = T i) → w' < 2 ^ 31 → gFw n cc nb t k v w w' V V' →
          tm_T M_U_fill (j + 1 + 4) 0 (fun z hh => z = .inl none ∧ gFl n m vs ps tr cc nb t k w V T h hh) 0 67 [some (.ref m), some (.ref p), some (.int (nI k)), some (.int (nI left)), some (.int (nI (gCo nb t k))), some (.int (nI s)), some (.int (nI x)), some (.int (nI (gCo nb t k * 2 ^ k + x))), some (.int (nI v))] [] hh := by
        intro l
        induction l with
        | zero =>
          intro v w' V' T' hh hv hf hm' hV' hT' hTT hw' hfw
          obtain rfl : v = n := by omega
          have hp' : hh p = tm_o 1 [.int (nI v), .ref a, .ref b] := (hf p n6.symm m1.symm n1.symm).trans hp
          apply tm_run [67] 80
          simp (disch := first | assumption | omega) only [↓reduceIte, tm_w_i, tm_w_0, Bool.false_eq_true, tm_gI_0, tm_gI_s, tm_gA_0, tm_gA_s, tm_fv_0, tm_fv_s, tm_p1_e, tm_pA_e, tm_pJ_e, tm_pV_i, tm_pV_r, tm_cI_e, tm_cZ_e, tm_cJ_e, tm_cQ_e, tm_cO_e, tm_rq_e, List.set_cons_zero, List.set_cons_succ, List.contains_cons, List.contains_nil, Nat.reduceBEq, Bool.or_false, Bool.false_or, Bool.or_true, Bool.true_or, Bool.or_self, cond_true, cond_false, true_and, and_true, or_true, true_or, true_implies, false_implies, not_true_eq_false, not_false_eq_true, List.length_cons, List.length_nil, Option.toList_some, Option.toList_none, List.cons_append, List.nil_append, ws_U_fill_0, ws_U_fill_1, ws_U_fill_2, ws_U_fill_5, ws_U_fill_8, ws_U_fill_9, ws_U_fill_10, ws_U_fill_13, ws_U_fill_15, ws_U_fill_18, ws_U_fill_19, ws_U_fill_20, ws_U_fill_21, ws_U_fill_24, ws_U_fill_26, ws_U_fill_27, ws_U_fill_28, ws_U_fill_29, ws_U_fill_31, ws_U_fill_34, ws_U_fill_36, ws_U_fill_38, ws_U_fill_39, ws_U_fill_40, ws_U_fill_42, ws_U_fill_43, ws_U_fill_45, ws_U_fill_47, ws_U_fill_48, ws_U_fill_51, ws_U_fill_52, ws_U_fill_55, ws_U_fill_56, ws_U_fill_59, ws_U_fill_60, ws_U_fill_63, ws_U_fill_64, ws_U_fill_65, ws_U_fill_67, ws_U_fill_69, ws_U_fill_70, ws_U_fill_73, ws_U_fill_76, ws_U_fill_78, ws_U_fill_80, ws_U_fill_83, ws_U_fill_86, ws_U_fill_87, ws_U_fill_88, ws_U_fill_89, ws_U_fill_91, ws_U_fill_94, ws_U_fill_96, ws_U_fill_99, ws_U_fill_100, ws_U_fill_102, ws_U_fill_104, ws_U_fill_107, ws_U_fill_110, ws_U_fill_111, ws_U_fill_114, ws_U_fill_115, ws_U_fill_117, ws_U_fill_118, ws_U_fill_119, ws_U_fill_120, ws_U_fill_121, ws_U_fill_122, ws_U_fill_123, ws_U_fill_124, ws_U_fill_125, ws_U_fill_127, ws_U_fill_128, ws_U_fill_129, ws_U_fill_131, ws_U_fill_134, ws_U_fill_137, ws_U_fill_140, tm_up_s, tm_up_n, tm_up_up, nI_leI, nI_ltI, nI_eq, nI_cl, nI_in', ix_1shl, ix_or, ix_xor, nI_1, bI_0, bI_1, bI_F, pk_us, pk_un, hp', Nat.le_refl]
          exact ⟨hf, w', V', T', hm', hV', hT', hTT, hw', gFw_end hkn hfw⟩
        | succ l ihl =>
          intro v w' V' T' hh hv hf hm' hV' hT' hTT hw' hfw
          have hlt : ¬ n ≤ v := by omega
          have hvn : v < n := by omega
          have hp' : hh p = tm_o 1 [.int (nI n), .ref a, .ref b] := (hf p n6.symm m1.symm n1.symm).trans hp
          have hg' : gG hh p a b n cc nb := hg0.fr (fun k hk => hf k (by omega) (by omega) (by omega))
          have ht' : ∀ i, i < k → T' i = nI (t i) ∧ t i < n := fun i hi => ⟨(hTT i hi).trans (ht i hi), hvp.2.1 i hi⟩
          have bl : gBt nb t v k < 128 := g2p (by omega) (gBt_lt nb t v k)
          have xl : x < 128 := g2p (by omega) hxk
          apply tm_run [67] 80
          simp (disch := first | assumption | omega) only [↓reduceIte, tm_w_i, tm_w_0, Bool.false_eq_true, tm_gI_0, tm_gI_s, tm_gA_0, tm_gA_s, tm_fv_0, tm_fv_s, tm_p1_e, tm_pA_e, tm_pJ_e, tm_pV_i, tm_pV_r, tm_cI_e, tm_cZ_e, tm_cJ_e, tm_cQ_e, tm_cO_e, tm_rq_e, List.set_cons_zero, List.set_cons_succ, List.contains_cons, List.contains_nil, Nat.reduceBEq, Bool.or_false, Bool.false_or, Bool.or_true, Bool.true_or, Bool.or_self, cond_true, cond_false, true_and, and_true, or_true, true_or, true_implies, false_implies, not_true_eq_false, not_false_eq_true, List.length_cons, List.length_nil, Option.toList_some, Option.toList_none, List.cons_append, List.nil_append, ws_U_fill_0, ws_U_fill_1, ws_U_fill_2, ws_U_fill_5, ws_U_fill_8, ws_U_fill_9, ws_U_fill_10, ws_U_fill_13, ws_U_fill_15, ws_U_fill_18, ws_U_fill_19, ws_U_fill_20, ws_U_fill_21, ws_U_fill_24, ws_U_fill_26, ws_U_fill_27, ws_U_fill_28, ws_U_fill_29, ws_U_fill_31, ws_U_fill_34, ws_U_fill_36, ws_U_fill_38, ws_U_fill_39, ws_U_fill_40, ws_U_fill_42, ws_U_fill_43, ws_U_fill_45, ws_U_fill_47, ws_U_fill_48, ws_U_fill_51, ws_U_fill_52, ws_U_fill_55, ws_U_fill_56, ws_U_fill_59, ws_U_fill_60, ws_U_fill_63, ws_U_fill_64, ws_U_fill_65, ws_U_fill_67, ws_U_fill_69, ws_U_fill_70, ws_U_fill_73, ws_U_fill_76, ws_U_fill_78, ws_U_fill_80, ws_U_fill_83, ws_U_fill_86, ws_U_fill_87, ws_U_fill_88, ws_U_fill_89, ws_U_fill_91, ws_U_fill_94, ws_U_fill_96, ws_U_fill_99, ws_U_fill_100, ws_U_fill_102, ws_U_fill_104, ws_U_fill_107, ws_U_fill_110, ws_U_fill_111, ws_U_fill_114, ws_U_fill_115, ws_U_fill_117, ws_U_fill_118, ws_U_fill_119, ws_U_fill_120, ws_U_fill_121, ws_U_fill_122, ws_U_fill_123, ws_U_fill_124, ws_U_fill_125, ws_U_fill_127, ws_U_fill_128, ws_U_fill_129, ws_U_fill_131, ws_U_fill_134, ws_U_fill_137, ws_U_fill_140, tm_up_s, tm_up_n, tm_up_up, nI_leI, nI_ltI, nI_eq, nI_cl, nI_in', ix_1shl, ix_or, ix_xor, nI_1, bI_0, bI_1, bI_F, pk_us, pk_un, hp', hlt]
          refine kd_U_fill_80 (Nat.le_of_ble_eq_true rfl) (by omega) (by omega) (c_N_contains (by omega) (by omega)) ?_
          cases b1 : s.testBit v with
          | false =>
            apply tm_run [67] 80
            simp (disch := first | assumption | omega) only [↓reduceIte, tm_w_i, tm_w_0, Bool.false_eq_true, tm_gI_0, tm_gI_s, tm_gA_0, tm_gA_s, tm_fv_0, tm_fv_s, tm_p1_e, tm_pA_e, tm_pJ_e, tm_pV_i, tm_pV_r, tm_cI_e, tm_cZ_e, tm_cJ_e, tm_cQ_e, tm_cO_e, tm_rq_e, List.set_cons_zero, List.set_cons_succ, List.contains_cons, List.contains_nil, Nat.reduceBEq, Bool.or_false, Bool.false_or, Bool.or_true, Bool.true_or, Bool.or_self, cond_true, cond_false, true_and, and_true, or_true, true_or, true_implies, false_implies, not_true_eq_false, not_false_eq_true, List.length_cons, List.length_nil, Option.toList_some, Option.toList_none, List.cons_append, List.nil_append, ws_U_fill_0, ws_U_fill_1, ws_U_fill_2, ws_U_fill_5, ws_U_fill_8, ws_U_fill_9, ws_U_fill_10, ws_U_fill_13, ws_U_fill_15, ws_U_fill_18, ws_U_fill_19, ws_U_fill_20, ws_U_fill_21, ws_U_fill_24, ws_U_fill_26, ws_U_fill_27, ws_U_fill_28, ws_U_fill_29, ws_U_fill_31, ws_U_fill_34, ws_U_fill_36, ws_U_fill_38, ws_U_fill_39, ws_U_fill_40, ws_U_fill_42, ws_U_fill_43, ws_U_fill_45, ws_U_fill_47, ws_U_fill_48, ws_U_fill_51, ws_U_fill_52, ws_U_fill_55, ws_U_fill_56, ws_U_fill_59, ws_U_fill_60, ws_U_fill_63, ws_U_fill_64, ws_U_fill_65, ws_U_fill_67, ws_U_fill_69, ws_U_fill_70, ws_U_fill_73, ws_U_fill_76, ws_U_fill_78, ws_U_fill_80, ws_U_fill_83, ws_U_fill_86, ws_U_fill_87, ws_U_fill_88, ws_U_fill_89, ws_U_fill_91, ws_U_fill_94, ws_U_fill_96, ws_U_fill_99, ws_U_fill_100, ws_U_fill_102, ws_U_fill_104, ws_U_fill_107, ws_U_fill_110, ws_U_fill_111, ws_U_fill_114, ws_U_fill_115, ws_U_fill_117, ws_U_fill_118, ws_U_fill_119, ws_U_fill_120, ws_U_fill_121, ws_U_fill_122, ws_U_fill_123, ws_U_fill_124, ws_U_fill_125, ws_U_fill_127, ws_U_fill_128, ws_U_fill_129, ws_U_fill_131, ws_U_fill_134, ws_U_fill_137, ws_U_fill_140, tm_up_s, tm_up_n, tm_up_up, nI_leI, nI_ltI, nI_eq, nI_cl, nI_in', ix_1shl, ix_or, ix_xor, nI_1, bI_0, bI_1, bI_F, pk_us, pk_un, bI_f]
            refine ihl (v + 1) w' V' T' hh (by omega) hf hm' hV' hT' hTT hw' (gFw_skip hfw (fun r hr e => ?_))
            have := cand r hr.1
            rw [e, b1] at this; cases this
          | true =>
            have e8 : ¬ bI true = 0 := by decide
            apply tm_run [67] 80
            simp (disch := first | assumption | omega) only [↓reduceIte, tm_w_i, tm_w_0, Bool.false_eq_true, tm_gI_0, tm_gI_s, tm_gA_0, tm_gA_s, tm_fv_0, tm_fv_s, tm_p1_e, tm_pA_e, tm_pJ_e, tm_pV_i, tm_pV_r, tm_cI_e, tm_cZ_e, tm_cJ_e, tm_cQ_e, tm_cO_e, tm_rq_e, List.set_cons_zero, List.set_cons_succ, List.contains_cons, List.contains_nil, Nat.reduceBEq, Bool.or_false, Bool.false_or, Bool.or_true, Bool.true_or, Bool.or_self, cond_true, cond_false, true_and, and_true, or_true, true_or, true_implies, false_implies, not_true_eq_false, not_false_eq_true, List.length_cons, List.length_nil, Option.toList_some, Option.toList_none, List.cons_append, List.nil_append, ws_U_fill_0, ws_U_fill_1, ws_U_fill_2, ws_U_fill_5, ws_U_fill_8, ws_U_fill_9, ws_U_fill_10, ws_U_fill_13, ws_U_fill_15, ws_U_fill_18, ws_U_fill_19, ws_U_fill_20, ws_U_fill_21, ws_U_fill_24, ws_U_fill_26, ws_U_fill_27, ws_U_fill_28, ws_U_fill_29, ws_U_fill_31, ws_U_fill_34, ws_U_fill_36, ws_U_fill_38, ws_U_fill_39, ws_U_fill_40, ws_U_fill_42, ws_U_fill_43, ws_U_fill_45, ws_U_fill_47, ws_U_fill_48, ws_U_fill_51, ws_U_fill_52, ws_U_fill_55, ws_U_fill_56, ws_U_fill_59, ws_U_fill_60, ws_U_fill_63, ws_U_fill_64, ws_U_fill_65, ws_U_fill_67, ws_U_fill_69, ws_U_fill_70, ws_U_fill_73, ws_U_fill_76, ws_U_fill_78, ws_U_fill_80, ws_U_fill_83, ws_U_fill_86, ws_U_fill_87, ws_U_fill_88, ws_U_fill_89, ws_U_fill_91, ws_U_fill_94, ws_U_fill_96, ws_U_fill_99, ws_U_fill_100, ws_U_fill_102, ws_U_fill_104, ws_U_fill_107, ws_U_fill_110, ws_U_fill_111, ws_U_fill_114, ws_U_fill_115, ws_U_fill_117, ws_U_fill_118, ws_U_fill_119, ws_U_fill_120, ws_U_fill_121, ws_U_fill_122, ws_U_fill_123, ws_U_fill_124, ws_U_fill_125, ws_U_fill_127, ws_U_fill_128, ws_U_fill_129, ws_U_fill_131, ws_U_fill_134, ws_U_fill_137, ws_U_fill_140, tm_up_s, tm_up_n, tm_up_up, nI_leI, nI_ltI, nI_eq, nI_cl, nI_in', ix_1shl, ix_or, ix_xor, nI_1, bI_0, bI_1, bI_F, pk_us, pk_un, e8]
            refine kd_U_fill_91 hm' (Nat.le_of_ble_eq_true rfl) (by omega) (by omega) (c_U_bitsAt hg' hm' hT' ht' (by omega) hvn) ?_
            apply tm_run [67] 80
            simp (disch := first | assumption | omega) only [↓reduceIte, tm_w_i, tm_w_0, Bool.false_eq_true, tm_gI_0, tm_gI_s, tm_gA_0, tm_gA_s, tm_fv_0, tm_fv_s, tm_p1_e, tm_pA_e, tm_pJ_e, tm_pV_i, tm_pV_r, tm_cI_e, tm_cZ_e, tm_cJ_e, tm_cQ_e, tm_cO_e, tm_rq_e, List.set_cons_zero, List.set_cons_succ, List.contains_cons, List.contains_nil, Nat.reduceBEq, Bool.or_false, Bool.false_or, Bool.or_true, Bool.true_or, Bool.or_self, cond_true, cond_false, true_and, and_true, or_true, true_or, true_implies, false_implies, not_true_eq_false, not_false_eq_true, List.length_cons, List.length_nil, Option.toList_some, Option.toList_none, List.cons_append, List.nil_append, ws_U_fill_0, ws_U_fill_1, ws_U_fill_2, ws_U_fill_5, ws_U_fill_8, ws_U_fill_9, ws_U_fill_10, ws_U_fill_13, ws_U_fill_15, ws_U_fill_18, ws_U_fill_19, ws_U_fill_20, ws_U_fill_21, ws_U_fill_24, ws_U_fill_26, ws_U_fill_27, ws_U_fill_28, ws_U_fill_29, ws_U_fill_31, ws_U_fill_34, ws_U_fill_36, ws_U_fill_38, ws_U_fill_39, ws_U_fill_40, ws_U_fill_42, ws_U_fill_43, ws_U_fill_45, ws_U_fill_47, ws_U_fill_48, ws_U_fill_51, ws_U_fill_52, ws_U_fill_55, ws_U_fill_56, ws_U_fill_59, ws_U_fill_60, ws_U_fill_63, ws_U_fill_64, ws_U_fill_65, ws_U_fill_67, ws_U_fill_69, ws_U_fill_70, ws_U_fill_73, ws_U_fill_76, ws_U_fill_78, ws_U_fill_80, ws_U_fill_83, ws_U_fill_86, ws_U_fill_87, ws_U_fill_88, ws_U_fill_89, ws_U_fill_91, ws_U_fill_94, ws_U_fill_96, ws_U_fill_99, ws_U_fill_100, ws_U_fill_102, ws_U_fill_104, ws_U_fill_107, ws_U_fill_110, ws_U_fill_111, ws_U_fill_114, ws_U_fill_115, ws_U_fill_117, ws_U_fill_118, ws_U_fill_119, ws_U_fill_120, ws_U_fill_121, ws_U_fill_122, ws_U_fill_123, ws_U_fill_124, ws_U_fill_125, ws_U_fill_127, ws_U_fill_128, ws_U_fill_129, ws_U_fill_131, ws_U_fill_134, ws_U_fill_137, ws_U_fill_140, tm_up_s, tm_up_n, tm_up_up, nI_leI, nI_ltI, nI_eq, nI_cl, nI_in', ix_1shl, ix_or, ix_xor, nI_1, bI_0, bI_1, bI_F, pk_us, pk_un]
            refine ⟨fun e => ?_, fun e => ?_⟩
            · refine ihl (v + 1) w' V' T' hh (by omega) hf hm' hV' hT' hTT hw' (gFw_skip hfw (fun r hr q => ?_))
              have := hbt r hr
              rw [q] at this
              exact e this
            · have e' : gBt nb t v k = x := Classical.byContradiction e
              refine kc_U_fill_104 (Nat.le_of_ble_eq_true rfl) (by omega) (by omega) (c_U_hasLesserTwin hg' hvn hsl) ?_ (fun k h1 ⟨⟨_, _, e⟩, _⟩ => nomatch e)
              rintro v0 hh0 ⟨⟨r, r1, r2⟩, r3⟩
              cases r2; cases r3
              cases r with
              | true =>
                apply tm_run [67] 80
                simp (disch := first | assumption | omega) only [↓reduceIte, tm_w_i, tm_w_0, Bool.false_eq_true, tm_gI_0, tm_gI_s, tm_gA_0, tm_gA_s, tm_fv_0, tm_fv_s, tm_p1_e, tm_pA_e, tm_pJ_e, tm_pV_i, tm_pV_r, tm_cI_e, tm_cZ_e, tm_cJ_e, tm_cQ_e, tm_cO_e, tm_rq_e, List.set_cons_zero, List.set_cons_succ, List.contains_cons, List.contains_nil, Nat.reduceBEq, Bool.or_false, Bool.false_or, Bool.or_true, Bool.true_or, Bool.or_self, cond_true, cond_false, true_and, and_true, or_true, true_or, true_implies, false_implies, not_true_eq_false, not_false_eq_true, List.length_cons, List.length_nil, Option.toList_some, Option.toList_none, List.cons_append, List.nil_append, ws_U_fill_0, ws_U_fill_1, ws_U_fill_2, ws_U_fill_5, ws_U_fill_8, ws_U_fill_9, ws_U_fill_10, ws_U_fill_13, ws_U_fill_15, ws_U_fill_18, ws_U_fill_19, ws_U_fill_20, ws_U_fill_21, ws_U_fill_24, ws_U_fill_26, ws_U_fill_27, ws_U_fill_28, ws_U_fill_29, ws_U_fill_31, ws_U_fill_34, ws_U_fill_36, ws_U_fill_38, ws_U_fill_39, ws_U_fill_40, ws_U_fill_42, ws_U_fill_43, ws_U_fill_45, ws_U_fill_47, ws_U_fill_48, ws_U_fill_51, ws_U_fill_52, ws_U_fill_55, ws_U_fill_56, ws_U_fill_59, ws_U_fill_60, ws_U_fill_63, ws_U_fill_64, ws_U_fill_65, ws_U_fill_67, ws_U_fill_69, ws_U_fill_70, ws_U_fill_73, ws_U_fill_76, ws_U_fill_78, ws_U_fill_80, ws_U_fill_83, ws_U_fill_86, ws_U_fill_87, ws_U_fill_88, ws_U_fill_89, ws_U_fill_91, ws_U_fill_94, ws_U_fill_96, ws_U_fill_99, ws_U_fill_100, ws_U_fill_102, ws_U_fill_104, ws_U_fill_107, ws_U_fill_110, ws_U_fill_111, ws_U_fill_114, ws_U_fill_115, ws_U_fill_117, ws_U_fill_118, ws_U_fill_119, ws_U_fill_120, ws_U_fill_121, ws_U_fill_122, ws_U_fill_123, ws_U_fill_124, ws_U_fill_125, ws_U_fill_127, ws_U_fill_128, ws_U_fill_129, ws_U_fill_131, ws_U_fill_134, ws_U_fill_137, ws_U_fill_140, tm_up_s, tm_up_n, tm_up_up, nI_leI, nI_ltI, nI_eq, nI_cl, nI_in', ix_1shl, ix_or, ix_xor, nI_1, bI_0, bI_1, bI_F, pk_us, pk_un, e8]
                refine ihl (v + 1) w' V' T' hh (by omega) hf hm' hV' hT' hTT hw' (gFw_skip hfw (fun r hr q => ?_))
                obtain ⟨u, u1, u2, u3⟩ := r1.mp rfl
                refine absurd u3 ?_
                rw [← q]
                exact gMin_twin hok hr hkn (by omega) (lf u (by omega) u2) (scol _ _ (by omega) (by omega) u2 (by rw [q]; exact b1)) (by omega)
              | false =>
                have hvp' : gVp n cc (gUd t k v) (k + 1) := gVp_add hvp hkn hvn (lf v hvn b1) (fun w hw hnw => ((hs.2 v hvn).mp b1).2 w hw ((hlb w hw).mpr hnw))
                have hlv : left.testBit v = true := ((hs.2 v hvn).mp b1).1
                have ec : gCo nb t k * 2 ^ k + x = gCo nb (gUd t k v) (k + 1) := by
                  rw [gCo, gCo_eq (t := gUd t k v) (t' := t) (fun i hi => gUd_n (by omega)), gUd_s, gBt_eq (t := gUd t k v) (t' := t) (fun i hi => gUd_n (by omega)), e']
                apply tm_run [67] 80
                simp (disch := first | assumption | omega) only [↓reduceIte, tm_w_i, tm_w_0, Bool.false_eq_true, tm_gI_0, tm_gI_s, tm_gA_0, tm_gA_s, tm_fv_0, tm_fv_s, tm_p1_e, tm_pA_e, tm_pJ_e, tm_pV_i, tm_pV_r, tm_cI_e, tm_cZ_e, tm_cJ_e, tm_cQ_e, tm_cO_e, tm_rq_e, List.set_cons_zero, List.set_cons_succ, List.contains_cons, List.contains_nil, Nat.reduceBEq, Bool.or_false, Bool.false_or, Bool.or_true, Bool.true_or, Bool.or_self, cond_true, cond_false, true_and, and_true, or_true, true_or, true_implies, false_implies, not_true_eq_false, not_false_eq_true, List.length_cons, List.length_nil, Option.toList_some, Option.toList_none, List.cons_append, List.nil_append, ws_U_fill_0, ws_U_fill_1, ws_U_fill_2, ws_U_fill_5, ws_U_fill_8, ws_U_fill_9, ws_U_fill_10, ws_U_fill_13, ws_U_fill_15, ws_U_fill_18, ws_U_fill_19, ws_U_fill_20, ws_U_fill_21, ws_U_fill_24, ws_U_fill_26, ws_U_fill_27, ws_U_fill_28, ws_U_fill_29, ws_U_fill_31, ws_U_fill_34, ws_U_fill_36, ws_U_fill_38, ws_U_fill_39, ws_U_fill_40, ws_U_fill_42, ws_U_fill_43, ws_U_fill_45, ws_U_fill_47, ws_U_fill_48, ws_U_fill_51, ws_U_fill_52, ws_U_fill_55, ws_U_fill_56, ws_U_fill_59, ws_U_fill_60, ws_U_fill_63, ws_U_fill_64, ws_U_fill_65, ws_U_fill_67, ws_U_fill_69, ws_U_fill_70, ws_U_fill_73, ws_U_fill_76, ws_U_fill_78, ws_U_fill_80, ws_U_fill_83, ws_U_fill_86, ws_U_fill_87, ws_U_fill_88, ws_U_fill_89, ws_U_fill_91, ws_U_fill_94, ws_U_fill_96, ws_U_fill_99, ws_U_fill_100, ws_U_fill_102, ws_U_fill_104, ws_U_fill_107, ws_U_fill_110, ws_U_fill_111, ws_U_fill_114, ws_U_fill_115, ws_U_fill_117, ws_U_fill_118, ws_U_fill_119, ws_U_fill_120, ws_U_fill_121, ws_U_fill_122, ws_U_fill_123, ws_U_fill_124, ws_U_fill_125, ws_U_fill_127, ws_U_fill_128, ws_U_fill_129, ws_U_fill_131, ws_U_fill_134, ws_U_fill_137, ws_U_fill_140, tm_up_s, tm_up_n, tm_up_up, nI_leI, nI_ltI, nI_eq, nI_cl, nI_in', ix_1shl, ix_or, ix_xor, nI_1, bI_0, bI_1, bI_F, pk_us, pk_un, bI_f, hm', hT', hK2]
                rw [ec]
                refine kc_U_fill_131 ((tm_up_n n4.symm).trans hm') (Nat.le_of_ble_eq_true rfl) (by omega) (by omega) (ih (k + 1) (left ^^^ 2 ^ v) w' (gUd t k v) V' (upd T' k (nI v)) _ (by omega) (hg'.up n1 n2 n3) ((tm_up_n n4.symm).trans hm') ((tm_up_n n5).trans hV') (tm_up_s _ _ _) (fun i hi => ?_) hvp' (Nat.xor_lt_two_pow (n := 7) hl (Nat.pow_lt_pow_right (by decide) (by omega))) (fun u hu => ?_) hw') ?_ (fun k h1 ⟨e, _⟩ => nomatch e)
                · by_cases q : i = k
                  · rw [q, pk_us, gUd_s]
                  · rw [pk_un q, gUd_n q]
                    exact (ht' i (by omega)).1
                · rw [Nat.testBit_xor, Nat.testBit_two_pow]
                  by_cases q : u = v
                  · subst q
                    rw [hlv]
                    simp only [decide_true, Bool.xor_self, Bool.false_eq_true, false_iff]
                    exact fun z => z k (Nat.lt_succ_self k) (gUd_s t k u)
                  · have : decide (v = u) = false := decide_eq_false (fun z => q z.symm)
                    rw [this, Bool.xor_false, hlb u hu]
                    constructor
                    · intro z i hi
                      by_cases qi : i = k
                      · rw [qi, gUd_s]; exact fun z => q z.symm
                      · rw [gUd_n qi]; exact z i (by omega)
                    · intro z i hi
                      have := z i (by omega)
                      rw [gUd_n (by omega)] at this
                      exact this
                · rintro v0 h2 ⟨z1, z2, w2, V2, T2, z3, z4, z5, z6, z7, z8⟩
                  cases z1
                  have := ihl (v + 1) w2 V2 T2 h2 (by omega) (fun q q1 q2 q3 => by rw [z2 q q1 q2 q3, tm_up_n q3]; exact hf q q1 q2 q3) z3 z4 z5 (fun i hi => by rw [z6 i (by omega), pk_un (by omega)]; exact hTT i hi) z7 (gFw_try hkn hvp' hfw z8)
                  rw [ec] at this
                  apply tm_run [67] 80
                  simp (disch := first | assumption | omega) only [↓reduceIte, tm_w_i, tm_w_0, Bool.false_eq_true, tm_gI_0, tm_gI_s, tm_gA_0, tm_gA_s, tm_fv_0, tm_fv_s, tm_p1_e, tm_pA_e, tm_pJ_e, tm_pV_i, tm_pV_r, tm_cI_e, tm_cZ_e, tm_cJ_e, tm_cQ_e, tm_cO_e, tm_rq_e, List.set_cons_zero, List.set_cons_succ, List.contains_cons, List.contains_nil, Nat.reduceBEq, Bool.or_false, Bool.false_or, Bool.or_true, Bool.true_or, Bool.or_self, cond_true, cond_false, true_and, and_true, or_true, true_or, true_implies, false_implies, not_true_eq_false, not_false_eq_true, List.length_cons, List.length_nil, Option.toList_some, Option.toList_none, List.cons_append, List.nil_append, ws_U_fill_0, ws_U_fill_1, ws_U_fill_2, ws_U_fill_5, ws_U_fill_8, ws_U_fill_9, ws_U_fill_10, ws_U_fill_13, ws_U_fill_15, ws_U_fill_18, ws_U_fill_19, ws_U_fill_20, ws_U_fill_21, ws_U_fill_24, ws_U_fill_26, ws_U_fill_27, ws_U_fill_28, ws_U_fill_29, ws_U_fill_31, ws_U_fill_34, ws_U_fill_36, ws_U_fill_38, ws_U_fill_39, ws_U_fill_40, ws_U_fill_42, ws_U_fill_43, ws_U_fill_45, ws_U_fill_47, ws_U_fill_48, ws_U_fill_51, ws_U_fill_52, ws_U_fill_55, ws_U_fill_56, ws_U_fill_59, ws_U_fill_60, ws_U_fill_63, ws_U_fill_64, ws_U_fill_65, ws_U_fill_67, ws_U_fill_69, ws_U_fill_70, ws_U_fill_73, ws_U_fill_76, ws_U_fill_78, ws_U_fill_80, ws_U_fill_83, ws_U_fill_86, ws_U_fill_87, ws_U_fill_88, ws_U_fill_89, ws_U_fill_91, ws_U_fill_94, ws_U_fill_96, ws_U_fill_99, ws_U_fill_100, ws_U_fill_102, ws_U_fill_104, ws_U_fill_107, ws_U_fill_110, ws_U_fill_111, ws_U_fill_114, ws_U_fill_115, ws_U_fill_117, ws_U_fill_118, ws_U_fill_119, ws_U_fill_120, ws_U_fill_121, ws_U_fill_122, ws_U_fill_123, ws_U_fill_124, ws_U_fill_125, ws_U_fill_127, ws_U_fill_128, ws_U_fill_129, ws_U_fill_131, ws_U_fill_134, ws_U_fill_137, ws_U_fill_140, tm_up_s, tm_up_n, tm_up_up, nI_leI, nI_ltI, nI_eq, nI_cl, nI_in', ix_1shl, ix_or, ix_xor, nI_1, bI_0, bI_1, bI_F, pk_us, pk_un]
                  exact this
      exact key n 0 w V T h (by omega) (fun _ _ _ _ => rfl) hm hV hT (fun _ _ => rfl) hw gFw_0
    · refine ⟨fun _ _ _ _ => rfl, w, V, T, hm, hV, hT, fun _ _ => rfl, hw, fun r hr => ?_⟩
      have h1 : ¬ gCo nb r n < w := by
        intro q
        have h2 := (gCo_beg nb r (k + 1) j).1
        rw [show k + 1 + j = n by omega, ← hbb] at h2
        have h3 : gCo nb r (k + 1) = gCo nb t k * 2 ^ k + x := by
          rw [gCo, gCo_eq hr.1.2, gBt_eq hr.1.2, hbt r hr]
        rw [h3] at h2
        have h4 : w < (gCo nb t k * 2 ^ k + x) * 2 ^ (gTr n - gTr (k + 1)) := (Nat.div_lt_iff_lt_mul (Nat.two_pow_pos _)).mp (by omega)
        omega
      exact ⟨fun q => absurd q h1, fun _ => ⟨rfl, rfl⟩⟩
end BN
