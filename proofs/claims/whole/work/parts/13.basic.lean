section BA0
theorem tm_w_i (M : tm_M) (d u0 : Nat) (Q : tm_O → tm_Hp → Prop) (u : Nat) (S : List Nat) (n pc : Nat) (L : List (Option Value)) (st : List Value) (h : tm_Hp) :
    tm_w M d u0 Q u S (n + 1) pc L st h = if S.contains pc = true then tm_T M d u0 Q u pc L st h else tm_s M d u0 Q u S n pc L st h := by
  rw [tm_w_s]
  cases S.contains pc <;> rfl
end BA0
section BA
theorem tm_C.by {M : tm_M} {d u0 : Nat} {av : List Value} {h : tm_Hp} {Q : tm_O → tm_Hp → Prop} {L : List (Option Value)} (hy : plainFor (tm_y M) = true) (ho : (tm_y M).cls = tm_own M) (hc : av.all (fun v => v.category == 1) = true) (hn : Nat.ble av.length (tm_nL M) = true)
    (hL : av.map some ++ List.replicate (tm_nL M - av.length) none = L) (hT : tm_T M d u0 Q 0 0 L [] h) : tm_C M d u0 av h Q := by
  subst hL
  exact tm_C.of hy ho (fun v hv => by simpa using List.all_eq_true.mp hc v hv) (Nat.le_of_ble_eq_true hn) hT
def bI (b : Bool) : Int32 := bif b then 1 else 0
theorem bI_01 (b : Bool) : bI b = 0 ∨ bI b = 1 := by cases b <;> simp [bI]
theorem bI_t : bI true = 1 := rfl
theorem bI_f : bI false = 0 := rfl
theorem bI_0 (b : Bool) : bI b = 0 ↔ b = false := by cases b <;> decide
/-! numbers as ints -/
theorem i_0 : (0 : Int32) = nI 0 := rfl
theorem i_1 : (1 : Int32) = nI 1 := rfl
theorem i_2 : (2 : Int32) = nI 2 := rfl
theorem i_3 : (3 : Int32) = nI 3 := rfl
theorem i_4 : (4 : Int32) = nI 4 := rfl
theorem i_5 : (5 : Int32) = nI 5 := rfl
theorem i_7 : (7 : Int32) = nI 7 := rfl
theorem i_49 : (49 : Int32) = nI 49 := rfl
theorem i_31 : (31 : Int32) = nI 31 := rfl
theorem ix_and (a b : Nat) : nI a &&& nI b = nI (a &&& b) := by
  apply Int32.toBitVec_inj.1
  show BitVec.ofNat 32 a &&& BitVec.ofNat 32 b = BitVec.ofNat 32 (a &&& b)
  apply BitVec.eq_of_getLsbD_eq
  intro i hi
  simp [hi]
theorem ix_xor (a b : Nat) : nI a ^^^ nI b = nI (a ^^^ b) := by
  apply Int32.toBitVec_inj.1
  show BitVec.ofNat 32 a ^^^ BitVec.ofNat 32 b = BitVec.ofNat 32 (a ^^^ b)
  apply BitVec.eq_of_getLsbD_eq
  intro i hi
  simp [hi]
theorem ix_or (a b : Nat) : nI a ||| nI b = nI (a ||| b) := by
  apply Int32.toBitVec_inj.1
  show BitVec.ofNat 32 a ||| BitVec.ofNat 32 b = BitVec.ofNat 32 (a ||| b)
  apply BitVec.eq_of_getLsbD_eq
  intro i hi
  simp [hi]
theorem ix_sl : ∀ n, n < 32 → ((nI n &&& 31).toBitVec.smod 32).toNat = n := by decide +kernel
theorem ix_su : ∀ n, n < 32 → (((nI n).toUInt32 &&& Int32.toUInt32 31).toBitVec % 32).toNat = n := by decide +kernel
theorem ix_shl {a k : Nat} (hk : k < 32) (h : a * 2 ^ k < 2 ^ 32) : nI a <<< (nI k &&& 31) = nI (a * 2 ^ k) := pk_shlN _ k (ix_sl k hk) h
theorem ix_shr {a k : Nat} (ha : a < 2 ^ 31) (hk : k < 32) : nI a >>> (nI k &&& 31) = nI (a / 2 ^ k) := pk_shrN ha _ k (ix_sl k hk)
theorem ix_ushr {a k : Nat} (ha : a < 2 ^ 32) (hk : k < 32) : ((nI a).toUInt32 >>> ((nI k).toUInt32 &&& Int32.toUInt32 31)).toInt32 = nI (a / 2 ^ k) := pk_ushrN ha _ k (ix_su k hk)
theorem ix_1shl {k : Nat} (hk : k < 31) : (1 : Int32) <<< (nI k &&& 31) = nI (2 ^ k) := by
  have h : 2 ^ k < 2 ^ 31 := Nat.pow_lt_pow_right (by decide) hk
  rw [i_1, ix_shl (by omega) (by omega), Nat.one_mul]
/-- a bit of a set -/
theorem ix_bit {s v : Nat} (hs : s < 2 ^ 31) (hv : v < 32) : (nI s >>> (nI v &&& 31) &&& 1 = 0) ↔ s.testBit v = false := by
  rw [ix_shr hs hv, pk_andN (Nat.lt_of_le_of_lt (Nat.div_le_self _ _) (by omega)) 1 (by decide), i_0, nI_eq (by have := Nat.mod_lt (s / 2 ^ v) (show 0 < 2 ^ 1 by decide); omega) (by decide), Nat.testBit_eq_decide_div_mod_eq]
  have := Nat.mod_lt (s / 2 ^ v) (show 0 < 2 by decide)
  simp only [Nat.pow_one, decide_eq_false_iff_not]
  omega
theorem nI_cl {n : Nat} (h : n < 2560) : (nI n).toNatClampNeg = n := nI_clamp (by omega)
theorem nI_in' {n N : Nat} (h : n < N) (hN : N < 2560) : vp_in (nI n) N := vp_in_nI h (by omega)
end BA
section BB
variable {h : tm_Hp}
theorem c_N_contains {s v : Nat} (hs : s < 2 ^ 31) (hv : v < 32) : tm_C M_N_contains 0 0 [.int (nI s), .int (nI v)] h (fun o k => o = .inl (some (.int (bI (s.testBit v)))) ∧ k = h) := by
  refine tm_C.by (L := [some (.int (nI s)), some (.int (nI v))]) rfl rfl rfl rfl rfl ?_
  apply tm_run [] 30
  simp only [↓reduceIte, tm_w_i, tm_w_0, Bool.false_eq_true, tm_gI_0, tm_gI_s, tm_gA_0, tm_gA_s, tm_fv_0, tm_fv_s, tm_p1_e, tm_pA_e, tm_pJ_e, tm_pV_i, tm_pV_r, tm_cI_e, tm_cZ_e, tm_cJ_e, tm_cQ_e, tm_cO_e, tm_rq_e, List.set_cons_zero, List.set_cons_succ, List.contains_cons, List.contains_nil, Nat.reduceBEq, Bool.or_false, Bool.false_or, Bool.or_true, Bool.true_or, Bool.or_self, cond_true, cond_false, true_and, and_true, or_true, true_or, true_implies, false_implies, not_true_eq_false, not_false_eq_true, List.length_cons, List.length_nil, Option.toList_some, Option.toList_none, List.cons_append, List.nil_append, ws_N_contains_0, ws_N_contains_1, ws_N_contains_2, ws_N_contains_3, ws_N_contains_4, ws_N_contains_5, ws_N_contains_8, ws_N_contains_9, ws_N_contains_12, ws_N_contains_13, ix_bit hs hv]
  cases s.testBit v <;> simp [bI]
theorem c_N_isLeast {s v : Nat} (hs : s < 2 ^ 31) (hv : v < 31) : tm_C M_N_isLeast 0 0 [.int (nI v), .int (nI s)] h (fun o k => o = .inl (some (.int (bI (s % 2 ^ v == 0)))) ∧ k = h) := by
  refine tm_C.by (L := [some (.int (nI v)), some (.int (nI s))]) rfl rfl rfl rfl rfl ?_
  apply tm_run [] 30
  have hp : 0 < 2 ^ v := Nat.two_pow_pos v
  have hp2 : 2 ^ v < 2 ^ 31 := Nat.pow_lt_pow_right (by decide) hv
  have e : nI s &&& ((1 : Int32) <<< (nI v &&& 31) - 1) = nI (s % 2 ^ v) := by
    rw [ix_1shl hv, i_1, pk_sub hp, ix_and, Nat.and_two_pow_sub_one_eq_mod]
  have e2 : nI (s % 2 ^ v) = 0 ↔ s % 2 ^ v = 0 := by
    rw [i_0, nI_eq (by have := Nat.mod_le s (2 ^ v); omega) (by decide)]
  simp only [↓reduceIte, tm_w_i, tm_w_0, Bool.false_eq_true, tm_gI_0, tm_gI_s, tm_gA_0, tm_gA_s, tm_fv_0, tm_fv_s, tm_p1_e, tm_pA_e, tm_pJ_e, tm_pV_i, tm_pV_r, tm_cI_e, tm_cZ_e, tm_cJ_e, tm_cQ_e, tm_cO_e, tm_rq_e, List.set_cons_zero, List.set_cons_succ, List.contains_cons, List.contains_nil, Nat.reduceBEq, Bool.or_false, Bool.false_or, Bool.or_true, Bool.true_or, Bool.or_self, cond_true, cond_false, true_and, and_true, or_true, true_or, true_implies, false_implies, not_true_eq_false, not_false_eq_true, List.length_cons, List.length_nil, Option.toList_some, Option.toList_none, List.cons_append, List.nil_append, ws_N_isLeast_0, ws_N_isLeast_1, ws_N_isLeast_2, ws_N_isLeast_3, ws_N_isLeast_4, ws_N_isLeast_5, ws_N_isLeast_6, ws_N_isLeast_7, ws_N_isLeast_10, ws_N_isLeast_11, ws_N_isLeast_14, ws_N_isLeast_15, e, e2]
  cases hb : (s % 2 ^ v == 0) <;> simp_all [bI]
/-- how many bits -/
def gPop : Nat → Nat → Nat
  | 0, _ => 0
  | k + 1, x => gPop k x + (if x.testBit k then 1 else 0)
def gpc (x : Nat) : Nat := gPop 7 x
set_option maxRecDepth 20000 in
theorem c_I_bitCount {x : Nat} (hx : x < 128) : tm_C M_I_bitCount 0 0 [.int (nI x)] h (fun o k => o = .inl (some (.int (nI (gpc x)))) ∧ k = h) := by
  refine tm_C.by (L := [some (.int (nI x))]) rfl rfl rfl rfl rfl ?_
  apply tm_run [] 60
  simp only [↓reduceIte, tm_w_i, tm_w_0, Bool.false_eq_true, tm_gI_0, tm_gI_s, tm_gA_0, tm_gA_s, tm_fv_0, tm_fv_s, tm_p1_e, tm_pA_e, tm_pJ_e, tm_pV_i, tm_pV_r, tm_cI_e, tm_cZ_e, tm_cJ_e, tm_cQ_e, tm_cO_e, tm_rq_e, List.set_cons_zero, List.set_cons_succ, List.contains_cons, List.contains_nil, Nat.reduceBEq, Bool.or_false, Bool.false_or, Bool.or_true, Bool.true_or, Bool.or_self, cond_true, cond_false, true_and, and_true, or_true, true_or, true_implies, false_implies, not_true_eq_false, not_false_eq_true, List.length_cons, List.length_nil, Option.toList_some, Option.toList_none, List.cons_append, List.nil_append, ws_I_bitCount_0, ws_I_bitCount_1, ws_I_bitCount_2, ws_I_bitCount_3, ws_I_bitCount_4, ws_I_bitCount_7, ws_I_bitCount_8, ws_I_bitCount_9, ws_I_bitCount_10, ws_I_bitCount_11, ws_I_bitCount_14, ws_I_bitCount_15, ws_I_bitCount_16, ws_I_bitCount_17, ws_I_bitCount_18, ws_I_bitCount_21, ws_I_bitCount_22, ws_I_bitCount_23, ws_I_bitCount_24, ws_I_bitCount_25, ws_I_bitCount_26, ws_I_bitCount_27, ws_I_bitCount_28, ws_I_bitCount_29, ws_I_bitCount_32, ws_I_bitCount_33, ws_I_bitCount_34, ws_I_bitCount_35, ws_I_bitCount_36, ws_I_bitCount_38, ws_I_bitCount_39, ws_I_bitCount_40, ws_I_bitCount_41, ws_I_bitCount_42, ws_I_bitCount_43, ws_I_bitCount_45, ws_I_bitCount_46, ws_I_bitCount_47, ws_I_bitCount_48, ws_I_bitCount_49, ws_I_bitCount_51, ws_I_bitCount_52]
  revert x
  decide +kernel
theorem c_H_min {x y : Int32} : tm_C M_H_min 0 0 [.int x, .int y] h (fun o k => o = .inl (some (.int (if y < x then y else x))) ∧ k = h) := by
  refine tm_C.by (L := [some (.int x), some (.int y)]) (by decide +kernel) rfl rfl rfl rfl ?_
  apply tm_run [] 30
  simp only [↓reduceIte, tm_w_i, tm_w_0, Bool.false_eq_true, tm_gI_0, tm_gI_s, tm_gA_0, tm_gA_s, tm_fv_0, tm_fv_s, tm_p1_e, tm_pA_e, tm_pJ_e, tm_pV_i, tm_pV_r, tm_cI_e, tm_cZ_e, tm_cJ_e, tm_cQ_e, tm_cO_e, tm_rq_e, List.set_cons_zero, List.set_cons_succ, List.contains_cons, List.contains_nil, Nat.reduceBEq, Bool.or_false, Bool.false_or, Bool.or_true, Bool.true_or, Bool.or_self, cond_true, cond_false, true_and, and_true, or_true, true_or, true_implies, false_implies, not_true_eq_false, not_false_eq_true, List.length_cons, List.length_nil, Option.toList_some, Option.toList_none, List.cons_append, List.nil_append, ws_H_min_0, ws_H_min_1, ws_H_min_2, ws_H_min_5, ws_H_min_6, ws_H_min_9, ws_H_min_10]
  refine ⟨fun e => ?_, fun e => ?_⟩
  · rw [if_pos e]
  · rw [if_neg e]
end BB
