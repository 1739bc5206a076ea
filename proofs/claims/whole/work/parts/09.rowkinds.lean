section TMN
variable {M : tm_M} {d u0 u : Nat} {Q : tm_O → tm_Hp → Prop} {S : List Nat} {n pc q : Nat} {L : List (Option Value)} {st : List Value} {h : tm_Hp}
theorem tm_r_iconst {k : Int} {v : Int32} (hd : decode (tm_cc M) pc = .ok (.iconst k, 1)) (hq : pc + 1 = q) (hv : Int32.ofInt k = v) : tm_s M d u0 Q u S n pc L st h = tm_w M d u0 Q u S n q L (.int v :: st) h := by
  subst hq; subst hv; exact (tm_s_d hd).trans (tm_and rfl)
theorem tm_r_lconst {k : Fin 2} {v : Int64} (hd : decode (tm_cc M) pc = .ok (.lconst k, 1)) (hq : pc + 1 = q) (hv : Int64.ofNat k.val = v) : tm_s M d u0 Q u S n pc L st h = tm_w M d u0 Q u S n q L (.long v :: st) h := by
  subst hq; subst hv; exact (tm_s_d hd).trans (tm_and rfl)
theorem tm_r_bipush {k : Int} {v : Int32} (hd : decode (tm_cc M) pc = .ok (.bipush k, 2)) (hq : pc + 2 = q) (hv : (Int8.ofInt k).toInt32 = v) : tm_s M d u0 Q u S n pc L st h = tm_w M d u0 Q u S n q L (.int v :: st) h := by
  subst hq; subst hv; exact (tm_s_d hd).trans (tm_and rfl)
theorem tm_r_sipush {k : Int} {v : Int32} (hd : decode (tm_cc M) pc = .ok (.sipush k, 3)) (hq : pc + 3 = q) (hv : (Int16.ofInt k).toInt32 = v) : tm_s M d u0 Q u S n pc L st h = tm_w M d u0 Q u S n q L (.int v :: st) h := by
  subst hq; subst hv; exact (tm_s_d hd).trans (tm_and rfl)
theorem tm_r_ldc {i : Nat} {v : Int32} (hd : decode (tm_cc M) pc = .ok (.ldc i, 2)) (hq : pc + 2 = q) (hv : tm_cn (tm_own M) i = some v) : tm_s M d u0 Q u S n pc L st h = tm_w M d u0 Q u S n q L (.int v :: st) h := by
  subst hq; refine (tm_s_d hd).trans ((tm_and rfl).trans ?_); rw [hv]; rfl
theorem tm_r_ldc_w {i : Nat} {v : Int32} (hd : decode (tm_cc M) pc = .ok (.ldc_w i, 3)) (hq : pc + 3 = q) (hv : tm_cn (tm_own M) i = some v) : tm_s M d u0 Q u S n pc L st h = tm_w M d u0 Q u S n q L (.int v :: st) h := by
  subst hq; refine (tm_s_d hd).trans ((tm_and rfl).trans ?_); rw [hv]; rfl
theorem tm_r_iload_n {i : Fin 4} {j : Nat} (hd : decode (tm_cc M) pc = .ok (.iload_n i, 1)) (hq : pc + 1 = q) (hi : i.val = j) : tm_s M d u0 Q u S n pc L st h = tm_gI L j (fun x => tm_w M d u0 Q u S n q L (.int x :: st) h) := by
  subst hq; subst hi; exact (tm_s_d hd).trans (tm_and rfl)
theorem tm_r_iload {j : Nat} (hd : decode (tm_cc M) pc = .ok (.iload j, 2)) (hq : pc + 2 = q)  : tm_s M d u0 Q u S n pc L st h = tm_gI L j (fun x => tm_w M d u0 Q u S n q L (.int x :: st) h) := by
  subst hq; exact (tm_s_d hd).trans (tm_and rfl)
theorem tm_r_istore_n {i : Fin 4} {j : Nat} (hd : decode (tm_cc M) pc = .ok (.istore_n i, 1)) (hq : pc + 1 = q) (hi : i.val = j) (hj : j < tm_nL M) : tm_s M d u0 Q u S n pc L st h = tm_p1 st (fun x r => tm_w M d u0 Q u S n q (L.set j (some (.int x))) r h) := by
  subst hq; subst hi; exact (tm_s_d hd).trans ((tm_and rfl).trans (tm_and hj))
theorem tm_r_istore {j : Nat} (hd : decode (tm_cc M) pc = .ok (.istore j, 2)) (hq : pc + 2 = q) (hj : j < tm_nL M) : tm_s M d u0 Q u S n pc L st h = tm_p1 st (fun x r => tm_w M d u0 Q u S n q (L.set j (some (.int x))) r h) := by
  subst hq; exact (tm_s_d hd).trans ((tm_and rfl).trans (tm_and hj))
theorem tm_r_aload_n {i : Fin 4} {j : Nat} (hd : decode (tm_cc M) pc = .ok (.aload_n i, 1)) (hq : pc + 1 = q) (hi : i.val = j) : tm_s M d u0 Q u S n pc L st h = tm_gA L j (fun x => tm_w M d u0 Q u S n q L (.ref x :: st) h) := by
  subst hq; subst hi; exact (tm_s_d hd).trans (tm_and rfl)
theorem tm_r_aload {j : Nat} (hd : decode (tm_cc M) pc = .ok (.aload j, 2)) (hq : pc + 2 = q)  : tm_s M d u0 Q u S n pc L st h = tm_gA L j (fun x => tm_w M d u0 Q u S n q L (.ref x :: st) h) := by
  subst hq; exact (tm_s_d hd).trans (tm_and rfl)
theorem tm_r_astore_n {i : Fin 4} {j : Nat} (hd : decode (tm_cc M) pc = .ok (.astore_n i, 1)) (hq : pc + 1 = q) (hi : i.val = j) (hj : j < tm_nL M) : tm_s M d u0 Q u S n pc L st h = tm_pA st (fun x r => tm_w M d u0 Q u S n q (L.set j (some (.ref x))) r h) := by
  subst hq; subst hi; exact (tm_s_d hd).trans ((tm_and rfl).trans (tm_and hj))
theorem tm_r_astore {j : Nat} (hd : decode (tm_cc M) pc = .ok (.astore j, 2)) (hq : pc + 2 = q) (hj : j < tm_nL M) : tm_s M d u0 Q u S n pc L st h = tm_pA st (fun x r => tm_w M d u0 Q u S n q (L.set j (some (.ref x))) r h) := by
  subst hq; exact (tm_s_d hd).trans ((tm_and rfl).trans (tm_and hj))
theorem tm_r_iinc {j : Nat} {k : Int} {v : Int32} (hd : decode (tm_cc M) pc = .ok (.iinc j k, 3)) (hq : pc + 3 = q) (hv : Int32.ofInt k = v) (hj : j < tm_nL M) : tm_s M d u0 Q u S n pc L st h = tm_gI L j (fun x => tm_w M d u0 Q u S n q (L.set j (some (.int (x + v)))) st h) := by
  subst hq; subst hv; exact (tm_s_d hd).trans ((tm_and rfl).trans (tm_and hj))
theorem tm_r_iadd (hd : decode (tm_cc M) pc = .ok (.iadd, 1)) (hq : pc + 1 = q)  : tm_s M d u0 Q u S n pc L st h = tm_p1 st (fun y r => tm_p1 r (fun x r => tm_w M d u0 Q u S n q L (.int (x + y) :: r) h)) := by
  subst hq; exact (tm_s_d hd).trans (tm_and rfl)
theorem tm_r_isub (hd : decode (tm_cc M) pc = .ok (.isub, 1)) (hq : pc + 1 = q)  : tm_s M d u0 Q u S n pc L st h = tm_p1 st (fun y r => tm_p1 r (fun x r => tm_w M d u0 Q u S n q L (.int (x - y) :: r) h)) := by
  subst hq; exact (tm_s_d hd).trans (tm_and rfl)
theorem tm_r_imul (hd : decode (tm_cc M) pc = .ok (.imul, 1)) (hq : pc + 1 = q)  : tm_s M d u0 Q u S n pc L st h = tm_p1 st (fun y r => tm_p1 r (fun x r => tm_w M d u0 Q u S n q L (.int (x * y) :: r) h)) := by
  subst hq; exact (tm_s_d hd).trans (tm_and rfl)
theorem tm_r_iand (hd : decode (tm_cc M) pc = .ok (.iand, 1)) (hq : pc + 1 = q)  : tm_s M d u0 Q u S n pc L st h = tm_p1 st (fun y r => tm_p1 r (fun x r => tm_w M d u0 Q u S n q L (.int (x &&& y) :: r) h)) := by
  subst hq; exact (tm_s_d hd).trans (tm_and rfl)
theorem tm_r_ior (hd : decode (tm_cc M) pc = .ok (.ior, 1)) (hq : pc + 1 = q)  : tm_s M d u0 Q u S n pc L st h = tm_p1 st (fun y r => tm_p1 r (fun x r => tm_w M d u0 Q u S n q L (.int (x ||| y) :: r) h)) := by
  subst hq; exact (tm_s_d hd).trans (tm_and rfl)
theorem tm_r_ixor (hd : decode (tm_cc M) pc = .ok (.ixor, 1)) (hq : pc + 1 = q)  : tm_s M d u0 Q u S n pc L st h = tm_p1 st (fun y r => tm_p1 r (fun x r => tm_w M d u0 Q u S n q L (.int (x ^^^ y) :: r) h)) := by
  subst hq; exact (tm_s_d hd).trans (tm_and rfl)
theorem tm_r_ishl (hd : decode (tm_cc M) pc = .ok (.ishl, 1)) (hq : pc + 1 = q)  : tm_s M d u0 Q u S n pc L st h = tm_p1 st (fun y r => tm_p1 r (fun x r => tm_w M d u0 Q u S n q L (.int (x <<< (y &&& 31)) :: r) h)) := by
  subst hq; exact (tm_s_d hd).trans (tm_and rfl)
theorem tm_r_ishr (hd : decode (tm_cc M) pc = .ok (.ishr, 1)) (hq : pc + 1 = q)  : tm_s M d u0 Q u S n pc L st h = tm_p1 st (fun y r => tm_p1 r (fun x r => tm_w M d u0 Q u S n q L (.int (x >>> (y &&& 31)) :: r) h)) := by
  subst hq; exact (tm_s_d hd).trans (tm_and rfl)
theorem tm_r_iushr (hd : decode (tm_cc M) pc = .ok (.iushr, 1)) (hq : pc + 1 = q)  : tm_s M d u0 Q u S n pc L st h = tm_p1 st (fun y r => tm_p1 r (fun x r => tm_w M d u0 Q u S n q L (.int ((x.toUInt32 >>> (y.toUInt32 &&& Int32.toUInt32 31)).toInt32) :: r) h)) := by
  subst hq; exact (tm_s_d hd).trans (tm_and rfl)
theorem tm_r_idiv (hd : decode (tm_cc M) pc = .ok (.idiv, 1)) (hq : pc + 1 = q)  : tm_s M d u0 Q u S n pc L st h = tm_p1 st (fun y r => tm_p1 r (fun x r => ¬ y = 0 ∧ tm_w M d u0 Q u S n q L (.int (x / y) :: r) h)) := by
  subst hq; exact (tm_s_d hd).trans (tm_and rfl)
theorem tm_r_i2l (hd : decode (tm_cc M) pc = .ok (.i2l, 1)) (hq : pc + 1 = q)  : tm_s M d u0 Q u S n pc L st h = tm_p1 st (fun x r => tm_w M d u0 Q u S n q L (.long x.toInt64 :: r) h) := by
  subst hq; exact (tm_s_d hd).trans (tm_and rfl)
theorem tm_r_lcmp (hd : decode (tm_cc M) pc = .ok (.lcmp, 1)) (hq : pc + 1 = q)  : tm_s M d u0 Q u S n pc L st h = tm_pJ st (fun y r => tm_pJ r (fun x r => tm_w M d u0 Q u S n q L (.int (lg_cmp x y) :: r) h)) := by
  subst hq; exact (tm_s_d hd).trans (tm_and rfl)
theorem tm_r_dup (hd : decode (tm_cc M) pc = .ok (.dup, 1)) (hq : pc + 1 = q)  : tm_s M d u0 Q u S n pc L st h = tm_pV st (fun v r => tm_w M d u0 Q u S n q L (v :: v :: r) h) := by
  subst hq; exact (tm_s_d hd).trans (tm_and rfl)
theorem tm_r_pop (hd : decode (tm_cc M) pc = .ok (.pop, 1)) (hq : pc + 1 = q)  : tm_s M d u0 Q u S n pc L st h = tm_pV st (fun _ r => tm_w M d u0 Q u S n q L r h) := by
  subst hq; exact (tm_s_d hd).trans (tm_and rfl)
theorem tm_r_dup_x1 (hd : decode (tm_cc M) pc = .ok (.dup_x1, 1)) (hq : pc + 1 = q)  : tm_s M d u0 Q u S n pc L st h = tm_pV st (fun v r => tm_pV r (fun w r => tm_w M d u0 Q u S n q L (v :: w :: v :: r) h)) := by
  subst hq; exact (tm_s_d hd).trans (tm_and rfl)
theorem tm_r_dup_x2 (hd : decode (tm_cc M) pc = .ok (.dup_x2, 1)) (hq : pc + 1 = q)  : tm_s M d u0 Q u S n pc L st h = tm_pV st (fun v r => tm_pV r (fun w r => tm_pV r (fun z r => tm_w M d u0 Q u S n q L (v :: w :: z :: v :: r) h))) := by
  subst hq; exact (tm_s_d hd).trans (tm_and rfl)
theorem tm_r_dup2 (hd : decode (tm_cc M) pc = .ok (.dup2, 1)) (hq : pc + 1 = q)  : tm_s M d u0 Q u S n pc L st h = tm_pV st (fun v r => tm_pV r (fun w r => tm_w M d u0 Q u S n q L (v :: w :: v :: w :: r) h)) := by
  subst hq; exact (tm_s_d hd).trans (tm_and rfl)
theorem tm_r_ifeq {off : Int} {t : Nat} (hd : decode (tm_cc M) pc = .ok (.ifCond .eq off, 3)) (hq : pc + 3 = q) (ht : (pc : Int) + off = (t : Int)) : tm_s M d u0 Q u S n pc L st h = tm_p1 st (fun x r => (x = 0 → tm_w M d u0 Q u S n t L r h) ∧ (¬ x = 0 → tm_w M d u0 Q u S n q L r h)) := by
  subst hq; have hp : 0 ≤ (pc : Int) + off := by rw [ht]; exact Int.natCast_nonneg _
  have e : ((pc : Int) + off).toNat = t := by rw [ht]; exact Int.toNat_natCast _
  refine (tm_s_d hd).trans ((tm_and rfl).trans ((tm_and hp).trans ?_))
  rw [e]
  rfl
theorem tm_r_iceq {off : Int} {t : Nat} (hd : decode (tm_cc M) pc = .ok (.if_icmp .eq off, 3)) (hq : pc + 3 = q) (ht : (pc : Int) + off = (t : Int)) : tm_s M d u0 Q u S n pc L st h = tm_p1 st (fun y r => tm_p1 r (fun x r => (x = y → tm_w M d u0 Q u S n t L r h) ∧ (¬ x = y → tm_w M d u0 Q u S n q L r h))) := by
  subst hq; have hp : 0 ≤ (pc : Int) + off := by rw [ht]; exact Int.natCast_nonneg _
  have e : ((pc : Int) + off).toNat = t := by rw [ht]; exact Int.toNat_natCast _
  refine (tm_s_d hd).trans ((tm_and rfl).trans ((tm_and hp).trans ?_))
  rw [e]
  rfl
theorem tm_r_ifne {off : Int} {t : Nat} (hd : decode (tm_cc M) pc = .ok (.ifCond .ne off, 3)) (hq : pc + 3 = q) (ht : (pc : Int) + off = (t : Int)) : tm_s M d u0 Q u S n pc L st h = tm_p1 st (fun x r => (¬ x = 0 → tm_w M d u0 Q u S n t L r h) ∧ (¬ ¬ x = 0 → tm_w M d u0 Q u S n q L r h)) := by
  subst hq; have hp : 0 ≤ (pc : Int) + off := by rw [ht]; exact Int.natCast_nonneg _
  have e : ((pc : Int) + off).toNat = t := by rw [ht]; exact Int.toNat_natCast _
  refine (tm_s_d hd).trans ((tm_and rfl).trans ((tm_and hp).trans ?_))
  rw [e]
  rfl
theorem tm_r_icne {off : Int} {t : Nat} (hd : decode (tm_cc M) pc = .ok (.if_icmp .ne off, 3)) (hq : pc + 3 = q) (ht : (pc : Int) + off = (t : Int)) : tm_s M d u0 Q u S n pc L st h = tm_p1 st (fun y r => tm_p1 r (fun x r => (¬ x = y → tm_w M d u0 Q u S n t L r h) ∧ (¬ ¬ x = y → tm_w M d u0 Q u S n q L r h))) := by
  subst hq; have hp : 0 ≤ (pc : Int) + off := by rw [ht]; exact Int.natCast_nonneg _
  have e : ((pc : Int) + off).toNat = t := by rw [ht]; exact Int.toNat_natCast _
  refine (tm_s_d hd).trans ((tm_and rfl).trans ((tm_and hp).trans ?_))
  rw [e]
  rfl
theorem tm_r_iflt {off : Int} {t : Nat} (hd : decode (tm_cc M) pc = .ok (.ifCond .lt off, 3)) (hq : pc + 3 = q) (ht : (pc : Int) + off = (t : Int)) : tm_s M d u0 Q u S n pc L st h = tm_p1 st (fun x r => (x < 0 → tm_w M d u0 Q u S n t L r h) ∧ (¬ x < 0 → tm_w M d u0 Q u S n q L r h)) := by
  subst hq; have hp : 0 ≤ (pc : Int) + off := by rw [ht]; exact Int.natCast_nonneg _
  have e : ((pc : Int) + off).toNat = t := by rw [ht]; exact Int.toNat_natCast _
  refine (tm_s_d hd).trans ((tm_and rfl).trans ((tm_and hp).trans ?_))
  rw [e]
  rfl
theorem tm_r_iclt {off : Int} {t : Nat} (hd : decode (tm_cc M) pc = .ok (.if_icmp .lt off, 3)) (hq : pc + 3 = q) (ht : (pc : Int) + off = (t : Int)) : tm_s M d u0 Q u S n pc L st h = tm_p1 st (fun y r => tm_p1 r (fun x r => (x < y → tm_w M d u0 Q u S n t L r h) ∧ (¬ x < y → tm_w M d u0 Q u S n q L r h))) := by
  subst hq; have hp : 0 ≤ (pc : Int) + off := by rw [ht]; exact Int.natCast_nonneg _
  have e : ((pc : Int) + off).toNat = t := by rw [ht]; exact Int.toNat_natCast _
  refine (tm_s_d hd).trans ((tm_and rfl).trans ((tm_and hp).trans ?_))
  rw [e]
  rfl
theorem tm_r_ifge {off : Int} {t : Nat} (hd : decode (tm_cc M) pc = .ok (.ifCond .ge off, 3)) (hq : pc + 3 = q) (ht : (pc : Int) + off = (t : Int)) : tm_s M d u0 Q u S n pc L st h = tm_p1 st (fun x r => (0 ≤ x → tm_w M d u0 Q u S n t L r h) ∧ (¬ 0 ≤ x → tm_w M d u0 Q u S n q L r h)) := by
  subst hq; have hp : 0 ≤ (pc : Int) + off := by rw [ht]; exact Int.natCast_nonneg _
  have e : ((pc : Int) + off).toNat = t := by rw [ht]; exact Int.toNat_natCast _
  refine (tm_s_d hd).trans ((tm_and rfl).trans ((tm_and hp).trans ?_))
  rw [e]
  rfl
theorem tm_r_icge {off : Int} {t : Nat} (hd : decode (tm_cc M) pc = .ok (.if_icmp .ge off, 3)) (hq : pc + 3 = q) (ht : (pc : Int) + off = (t : Int)) : tm_s M d u0 Q u S n pc L st h = tm_p1 st (fun y r => tm_p1 r (fun x r => (y ≤ x → tm_w M d u0 Q u S n t L r h) ∧ (¬ y ≤ x → tm_w M d u0 Q u S n q L r h))) := by
  subst hq; have hp : 0 ≤ (pc : Int) + off := by rw [ht]; exact Int.natCast_nonneg _
  have e : ((pc : Int) + off).toNat = t := by rw [ht]; exact Int.toNat_natCast _
  refine (tm_s_d hd).trans ((tm_and rfl).trans ((tm_and hp).trans ?_))
  rw [e]
  rfl
theorem tm_r_ifgt {off : Int} {t : Nat} (hd : decode (tm_cc M) pc = .ok (.ifCond .gt off, 3)) (hq : pc + 3 = q) (ht : (pc : Int) + off = (t : Int)) : tm_s M d u0 Q u S n pc L st h = tm_p1 st (fun x r => (0 < x → tm_w M d u0 Q u S n t L r h) ∧ (¬ 0 < x → tm_w M d u0 Q u S n q L r h)) := by
  subst hq; have hp : 0 ≤ (pc : Int) + off := by rw [ht]; exact Int.natCast_nonneg _
  have e : ((pc : Int) + off).toNat = t := by rw [ht]; exact Int.toNat_natCast _
  refine (tm_s_d hd).trans ((tm_and rfl).trans ((tm_and hp).trans ?_))
  rw [e]
  rfl
theorem tm_r_icgt {off : Int} {t : Nat} (hd : decode (tm_cc M) pc = .ok (.if_icmp .gt off, 3)) (hq : pc + 3 = q) (ht : (pc : Int) + off = (t : Int)) : tm_s M d u0 Q u S n pc L st h = tm_p1 st (fun y r => tm_p1 r (fun x r => (y < x → tm_w M d u0 Q u S n t L r h) ∧ (¬ y < x → tm_w M d u0 Q u S n q L r h))) := by
  subst hq; have hp : 0 ≤ (pc : Int) + off := by rw [ht]; exact Int.natCast_nonneg _
  have e : ((pc : Int) + off).toNat = t := by rw [ht]; exact Int.toNat_natCast _
  refine (tm_s_d hd).trans ((tm_and rfl).trans ((tm_and hp).trans ?_))
  rw [e]
  rfl
theorem tm_r_ifle {off : Int} {t : Nat} (hd : decode (tm_cc M) pc = .ok (.ifCond .le off, 3)) (hq : pc + 3 = q) (ht : (pc : Int) + off = (t : Int)) : tm_s M d u0 Q u S n pc L st h = tm_p1 st (fun x r => (x ≤ 0 → tm_w M d u0 Q u S n t L r h) ∧ (¬ x ≤ 0 → tm_w M d u0 Q u S n q L r h)) := by
  subst hq; have hp : 0 ≤ (pc : Int) + off := by rw [ht]; exact Int.natCast_nonneg _
  have e : ((pc : Int) + off).toNat = t := by rw [ht]; exact Int.toNat_natCast _
  refine (tm_s_d hd).trans ((tm_and rfl).trans ((tm_and hp).trans ?_))
  rw [e]
  rfl
theorem tm_r_icle {off : Int} {t : Nat} (hd : decode (tm_cc M) pc = .ok (.if_icmp .le off, 3)) (hq : pc + 3 = q) (ht : (pc : Int) + off = (t : Int)) : tm_s M d u0 Q u S n pc L st h = tm_p1 st (fun y r => tm_p1 r (fun x r => (x ≤ y → tm_w M d u0 Q u S n t L r h) ∧ (¬ x ≤ y → tm_w M d u0 Q u S n q L r h))) := by
  subst hq; have hp : 0 ≤ (pc : Int) + off := by rw [ht]; exact Int.natCast_nonneg _
  have e : ((pc : Int) + off).toNat = t := by rw [ht]; exact Int.toNat_natCast _
  refine (tm_s_d hd).trans ((tm_and rfl).trans ((tm_and hp).trans ?_))
  rw [e]
  rfl
theorem tm_r_goto {off : Int} {t : Nat} (hd : decode (tm_cc M) pc = .ok (.goto off, 3)) (ht : (pc : Int) + off = (t : Int)) : tm_s M d u0 Q u S n pc L st h = tm_w M d u0 Q u S n t L st h := by
  have hp : 0 ≤ (pc : Int) + off := by rw [ht]; exact Int.natCast_nonneg _
  have e : ((pc : Int) + off).toNat = t := by rw [ht]; exact Int.toNat_natCast _
  refine (tm_s_d hd).trans ((tm_and rfl).trans ((tm_and hp).trans ?_))
  rw [e]
theorem tm_r_getf {i ci j : Nat} (hd : decode (tm_cc M) pc = .ok (.getfield i, 3)) (hq : pc + 3 = q) (hf : tm_fl (tm_own M) i = some (ci, j)) : tm_s M d u0 Q u S n pc L st h = tm_pA st (fun a r => tm_cO (h a) ci (fun fs => tm_fv fs j (fun v => tm_w M d u0 Q u S n q L (v :: r) h))) := by
  subst hq; refine (tm_s_d hd).trans ((tm_and rfl).trans ?_); rw [hf]; rfl
theorem tm_r_puti {i ci j : Nat} (hd : decode (tm_cc M) pc = .ok (.putfield i, 3)) (hq : pc + 3 = q) (hf : tm_fp (tm_own M) i = some (ci, j, true)) : tm_s M d u0 Q u S n pc L st h = tm_p1 st (fun v r => tm_pA r (fun a r => tm_cO (h a) ci (fun fs => j < fs.length ∧ tm_w M d u0 Q u S n q L r (tm_up h a (tm_o ci (fs.set j (.int v))))))) := by
  subst hq; refine (tm_s_d hd).trans ((tm_and rfl).trans ?_); rw [hf]; rfl
theorem tm_r_puta {i ci j : Nat} (hd : decode (tm_cc M) pc = .ok (.putfield i, 3)) (hq : pc + 3 = q) (hf : tm_fp (tm_own M) i = some (ci, j, false)) : tm_s M d u0 Q u S n pc L st h = tm_pA st (fun v r => tm_pA r (fun a r => tm_cO (h a) ci (fun fs => j < fs.length ∧ tm_w M d u0 Q u S n q L r (tm_up h a (tm_o ci (fs.set j (.ref v))))))) := by
  subst hq; refine (tm_s_d hd).trans ((tm_and rfl).trans ?_); rw [hf]; rfl
theorem tm_r_iaload (hd : decode (tm_cc M) pc = .ok (.iaload, 1)) (hq : pc + 1 = q)  : tm_s M d u0 Q u S n pc L st h = tm_p1 st (fun i r => tm_pA r (fun a r => tm_cI (h a) (fun k f => vp_in i k ∧ tm_w M d u0 Q u S n q L (.int (f i.toNatClampNeg) :: r) h))) := by
  subst hq; exact (tm_s_d hd).trans (tm_and rfl)
theorem tm_r_baload (hd : decode (tm_cc M) pc = .ok (.baload, 1)) (hq : pc + 1 = q)  : tm_s M d u0 Q u S n pc L st h = tm_p1 st (fun i r => tm_pA r (fun a r => tm_cZ (h a) (fun k f => vp_in i k ∧ tm_w M d u0 Q u S n q L (.int (f i.toNatClampNeg) :: r) h))) := by
  subst hq; exact (tm_s_d hd).trans (tm_and rfl)
theorem tm_r_laload (hd : decode (tm_cc M) pc = .ok (.laload, 1)) (hq : pc + 1 = q)  : tm_s M d u0 Q u S n pc L st h = tm_p1 st (fun i r => tm_pA r (fun a r => tm_cJ (h a) (fun k f => vp_in i k ∧ tm_w M d u0 Q u S n q L (.long (f i.toNatClampNeg) :: r) h))) := by
  subst hq; exact (tm_s_d hd).trans (tm_and rfl)
theorem tm_r_aaload (hd : decode (tm_cc M) pc = .ok (.aaload, 1)) (hq : pc + 1 = q)  : tm_s M d u0 Q u S n pc L st h = tm_p1 st (fun i r => tm_pA r (fun a r => tm_cQ (h a) (fun k f => vp_in i k ∧ tm_rq (f i.toNatClampNeg) (fun b => tm_w M d u0 Q u S n q L (.ref b :: r) h)))) := by
  subst hq; exact (tm_s_d hd).trans (tm_and rfl)
theorem tm_r_iastore (hd : decode (tm_cc M) pc = .ok (.iastore, 1)) (hq : pc + 1 = q)  : tm_s M d u0 Q u S n pc L st h = tm_p1 st (fun x r => tm_p1 r (fun i r => tm_pA r (fun a r => tm_cI (h a) (fun k f => a < tm_K ∧ vp_in i k ∧ tm_w M d u0 Q u S n q L r (tm_up h a (tm_i k (upd f i.toNatClampNeg x))))))) := by
  subst hq; exact (tm_s_d hd).trans (tm_and rfl)
theorem tm_r_bastore (hd : decode (tm_cc M) pc = .ok (.bastore, 1)) (hq : pc + 1 = q)  : tm_s M d u0 Q u S n pc L st h = tm_p1 st (fun x r => tm_p1 r (fun i r => tm_pA r (fun a r => tm_cZ (h a) (fun k f => vp_in i k ∧ tm_w M d u0 Q u S n q L r (tm_up h a (tm_z k (upd f i.toNatClampNeg (vp_nar .boolean x)))))))) := by
  subst hq; exact (tm_s_d hd).trans (tm_and rfl)
theorem tm_r_lastore (hd : decode (tm_cc M) pc = .ok (.lastore, 1)) (hq : pc + 1 = q)  : tm_s M d u0 Q u S n pc L st h = tm_pJ st (fun x r => tm_p1 r (fun i r => tm_pA r (fun a r => tm_cJ (h a) (fun k f => vp_in i k ∧ tm_w M d u0 Q u S n q L r (tm_up h a (tm_j k (vp_updL f i.toNatClampNeg x))))))) := by
  subst hq; exact (tm_s_d hd).trans (tm_and rfl)
theorem tm_r_alen (hd : decode (tm_cc M) pc = .ok (.arraylength, 1)) (hq : pc + 1 = q)  : tm_s M d u0 Q u S n pc L st h = tm_pA st (fun a r => tm_cI (h a) (fun k _ => tm_w M d u0 Q u S n q L (.int (nI k) :: r) h)) := by
  subst hq; exact (tm_s_d hd).trans (tm_and rfl)
theorem tm_r_iret (hd : decode (tm_cc M) pc = .ok (.ireturn, 1)) (hr : tm_rt M = some .int) : tm_s M d u0 Q u S n pc L st h = tm_p1 st (fun x r => r = [] ∧ Q (.inl (some (.int x))) h) := by
  refine (tm_s_d hd).trans ((tm_and rfl).trans ?_)
  refine congrArg (tm_p1 st) (funext fun x => funext fun r => ?_)
  exact propext ⟨fun z => ⟨z.1, z.2.2⟩, fun z => ⟨z.1, Or.inl hr, z.2⟩⟩
theorem tm_r_zret (hd : decode (tm_cc M) pc = .ok (.ireturn, 1)) (hr : tm_rt M = some .boolean) : tm_s M d u0 Q u S n pc L st h = tm_p1 st (fun x r => r = [] ∧ (x = 0 ∨ x = 1) ∧ Q (.inl (some (.int x))) h) := by
  refine (tm_s_d hd).trans ((tm_and rfl).trans ?_)
  refine congrArg (tm_p1 st) (funext fun x => funext fun r => ?_)
  exact propext ⟨fun z => ⟨z.1, z.2.1.elim (fun w => by rw [hr] at w; cases w) (fun w => w.2), z.2.2⟩, fun z => ⟨z.1, Or.inr ⟨hr, z.2.1⟩, z.2.2⟩⟩
theorem tm_r_aret {c : String} (hd : decode (tm_cc M) pc = .ok (.areturn, 1)) (hr : tm_rt M = some (.object c)) : tm_s M d u0 Q u S n pc L st h = tm_pA st (fun x r => r = [] ∧ Q (.inl (some (.ref x))) h) := by
  refine (tm_s_d hd).trans ((tm_and rfl).trans ?_)
  refine congrArg (tm_pA st) (funext fun x => funext fun r => ?_)
  exact propext ⟨fun z => ⟨z.1, z.2.2⟩, fun z => ⟨z.1, ⟨c, hr⟩, z.2⟩⟩
theorem tm_r_vret (hd : decode (tm_cc M) pc = .ok (.return_, 1)) (hr : tm_rt M = none) : tm_s M d u0 Q u S n pc L st h = (st = [] ∧ Q (.inl none) h) := by
  refine (tm_s_d hd).trans ((tm_and rfl).trans ?_)
  exact propext ⟨fun z => ⟨z.1, z.2.2⟩, fun z => ⟨z.1, hr, z.2⟩⟩
theorem tm_r_invs {i : Nat} (hd : decode (tm_cc M) pc = .ok (.invokestatic i, 3))  : tm_s M d u0 Q u S n pc L st h = tm_T M d u0 Q u pc L st h := by
  exact tm_s_d hd
theorem tm_r_invv {i : Nat} (hd : decode (tm_cc M) pc = .ok (.invokevirtual i, 3))  : tm_s M d u0 Q u S n pc L st h = tm_T M d u0 Q u pc L st h := by
  exact tm_s_d hd
theorem tm_r_invi {i : Nat} (hd : decode (tm_cc M) pc = .ok (.invokespecial i, 3))  : tm_s M d u0 Q u S n pc L st h = tm_T M d u0 Q u pc L st h := by
  exact tm_s_d hd
theorem tm_r_new {i : Nat} (hd : decode (tm_cc M) pc = .ok (.new i, 3))  : tm_s M d u0 Q u S n pc L st h = tm_T M d u0 Q u pc L st h := by
  exact tm_s_d hd
theorem tm_r_tsw {a b c : Int} {e : Array Int} {len : Nat} (hd : decode (tm_cc M) pc = .ok (.tableswitch a b c e, len))  : tm_s M d u0 Q u S n pc L st h = tm_T M d u0 Q u pc L st h := by
  exact tm_s_d hd
end TMN
