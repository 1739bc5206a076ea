section TMD
def tm_i (n : Nat) (f : Nat → Int32) : tm_Ce := .inl (false, n, f)
def tm_z (n : Nat) (f : Nat → Int32) : tm_Ce := .inl (true, n, f)
def tm_j (n : Nat) (f : Nat → Int64) : tm_Ce := .inr (.inl (n, f))
def tm_q (n : Nat) (f : Nat → Option Nat) : tm_Ce := .inr (.inr (.inl (n, f)))
def tm_o (ci : Nat) (fs : List Value) : tm_Ce := .inr (.inr (.inr (ci, fs)))
/-- reading: locals, stack, cells, fields -/
def tm_gI : List (Option Value) → Nat → (Int32 → Prop) → Prop
  | [], _, _ => False
  | o :: l, i, k => match i with
    | 0 => match o with
      | some (.int x) => k x
      | _ => False
    | i + 1 => tm_gI l i k
def tm_gA : List (Option Value) → Nat → (Nat → Prop) → Prop
  | [], _, _ => False
  | o :: l, i, k => match i with
    | 0 => match o with
      | some (.ref x) => k x
      | _ => False
    | i + 1 => tm_gA l i k
def tm_fv : List Value → Nat → (Value → Prop) → Prop
  | [], _, _ => False
  | o :: l, i, k => match i with
    | 0 => k o
    | i + 1 => tm_fv l i k
theorem tm_gI_0 (x : Int32) (l : List (Option Value)) (k : Int32 → Prop) : tm_gI (some (.int x) :: l) 0 k = k x := rfl
theorem tm_gI_s (o : Option Value) (l : List (Option Value)) (i : Nat) (k : Int32 → Prop) : tm_gI (o :: l) (i + 1) k = tm_gI l i k := rfl
theorem tm_gA_0 (x : Nat) (l : List (Option Value)) (k : Nat → Prop) : tm_gA (some (.ref x) :: l) 0 k = k x := rfl
theorem tm_gA_s (o : Option Value) (l : List (Option Value)) (i : Nat) (k : Nat → Prop) : tm_gA (o :: l) (i + 1) k = tm_gA l i k := rfl
theorem tm_fv_0 (x : Value) (l : List Value) (k : Value → Prop) : tm_fv (x :: l) 0 k = k x := rfl
theorem tm_fv_s (o : Value) (l : List Value) (i : Nat) (k : Value → Prop) : tm_fv (o :: l) (i + 1) k = tm_fv l i k := rfl
theorem tm_gI_of : ∀ {L : List (Option Value)} {i : Nat} {k : Int32 → Prop}, tm_gI L i k → ∃ x, L[i]? = some (some (.int x)) ∧ k x
  | [], _, _, h => h.elim
  | o :: l, 0, k, h => by
    cases o with
    | none => exact h.elim
    | some v => cases v <;> first | exact ⟨_, rfl, h⟩ | exact h.elim
  | o :: l, i + 1, k, h => by
    obtain ⟨x, h1, h2⟩ := tm_gI_of (L := l) (i := i) h
    exact ⟨x, by simpa using h1, h2⟩
theorem tm_gA_of : ∀ {L : List (Option Value)} {i : Nat} {k : Nat → Prop}, tm_gA L i k → ∃ x, L[i]? = some (some (.ref x)) ∧ k x
  | [], _, _, h => h.elim
  | o :: l, 0, k, h => by
    cases o with
    | none => exact h.elim
    | some v => cases v <;> first | exact ⟨_, rfl, h⟩ | exact h.elim
  | o :: l, i + 1, k, h => by
    obtain ⟨x, h1, h2⟩ := tm_gA_of (L := l) (i := i) h
    exact ⟨x, by simpa using h1, h2⟩
theorem tm_fv_of : ∀ {L : List Value} {i : Nat} {k : Value → Prop}, tm_fv L i k → ∃ x, L[i]? = some x ∧ k x
  | [], _, _, h => h.elim
  | o :: l, 0, k, h => ⟨o, rfl, h⟩
  | o :: l, i + 1, k, h => by
    obtain ⟨x, h1, h2⟩ := tm_fv_of (L := l) (i := i) h
    exact ⟨x, by simpa using h1, h2⟩
def tm_p1 (st : List Value) (k : Int32 → List Value → Prop) : Prop := match st with
  | .int x :: r => k x r
  | _ => False
def tm_pA (st : List Value) (k : Nat → List Value → Prop) : Prop := match st with
  | .ref x :: r => k x r
  | _ => False
def tm_pJ (st : List Value) (k : Int64 → List Value → Prop) : Prop := match st with
  | .long x :: r => k x r
  | _ => False
/-- any value of one slot -/
def tm_pV (st : List Value) (k : Value → List Value → Prop) : Prop := match st with
  | .int x :: r => k (.int x) r
  | .ref x :: r => k (.ref x) r
  | _ => False
theorem tm_p1_e (x : Int32) (r : List Value) (k : Int32 → List Value → Prop) : tm_p1 (.int x :: r) k = k x r := rfl
theorem tm_pA_e (x : Nat) (r : List Value) (k : Nat → List Value → Prop) : tm_pA (.ref x :: r) k = k x r := rfl
theorem tm_pJ_e (x : Int64) (r : List Value) (k : Int64 → List Value → Prop) : tm_pJ (.long x :: r) k = k x r := rfl
theorem tm_pV_i (x : Int32) (r : List Value) (k : Value → List Value → Prop) : tm_pV (.int x :: r) k = k (.int x) r := rfl
theorem tm_pV_r (x : Nat) (r : List Value) (k : Value → List Value → Prop) : tm_pV (.ref x :: r) k = k (.ref x) r := rfl
theorem tm_p1_of {st : List Value} {k : Int32 → List Value → Prop} (h : tm_p1 st k) : ∃ x r, st = .int x :: r ∧ k x r := by
  cases st with
  | nil => exact h.elim
  | cons v r => cases v <;> first | exact ⟨_, _, rfl, h⟩ | exact h.elim
theorem tm_pA_of {st : List Value} {k : Nat → List Value → Prop} (h : tm_pA st k) : ∃ x r, st = .ref x :: r ∧ k x r := by
  cases st with
  | nil => exact h.elim
  | cons v r => cases v <;> first | exact ⟨_, _, rfl, h⟩ | exact h.elim
theorem tm_pJ_of {st : List Value} {k : Int64 → List Value → Prop} (h : tm_pJ st k) : ∃ x r, st = .long x :: r ∧ k x r := by
  cases st with
  | nil => exact h.elim
  | cons v r => cases v <;> first | exact ⟨_, _, rfl, h⟩ | exact h.elim
theorem tm_pV_of {st : List Value} {k : Value → List Value → Prop} (h : tm_pV st k) : ∃ v r, st = v :: r ∧ v.category = 1 ∧ k v r := by
  cases st with
  | nil => exact h.elim
  | cons v r => cases v <;> first | exact ⟨_, _, rfl, rfl, h⟩ | exact h.elim
def tm_cI (e : tm_Ce) (k : Nat → (Nat → Int32) → Prop) : Prop := match e with
  | .inl (false, n, f) => k n f
  | _ => False
def tm_cZ (e : tm_Ce) (k : Nat → (Nat → Int32) → Prop) : Prop := match e with
  | .inl (true, n, f) => k n f
  | _ => False
def tm_cJ (e : tm_Ce) (k : Nat → (Nat → Int64) → Prop) : Prop := match e with
  | .inr (.inl (n, f)) => k n f
  | _ => False
def tm_cQ (e : tm_Ce) (k : Nat → (Nat → Option Nat) → Prop) : Prop := match e with
  | .inr (.inr (.inl (n, f))) => k n f
  | _ => False
def tm_cO (e : tm_Ce) (ci : Nat) (k : List Value → Prop) : Prop := match e with
  | .inr (.inr (.inr (c, fs))) => c = ci ∧ k fs
  | _ => False
theorem tm_cI_e (n : Nat) (f : Nat → Int32) (k : Nat → (Nat → Int32) → Prop) : tm_cI (tm_i n f) k = k n f := rfl
theorem tm_cZ_e (n : Nat) (f : Nat → Int32) (k : Nat → (Nat → Int32) → Prop) : tm_cZ (tm_z n f) k = k n f := rfl
theorem tm_cJ_e (n : Nat) (f : Nat → Int64) (k : Nat → (Nat → Int64) → Prop) : tm_cJ (tm_j n f) k = k n f := rfl
theorem tm_cQ_e (n : Nat) (f : Nat → Option Nat) (k : Nat → (Nat → Option Nat) → Prop) : tm_cQ (tm_q n f) k = k n f := rfl
theorem tm_cO_e (ci : Nat) (fs : List Value) (k : List Value → Prop) : tm_cO (tm_o ci fs) ci k = k fs := propext ⟨fun h => h.2, fun h => ⟨rfl, h⟩⟩
theorem tm_cI_of {e : tm_Ce} {k : Nat → (Nat → Int32) → Prop} (h : tm_cI e k) : ∃ n f, e = tm_i n f ∧ k n f := by
  rcases e with ⟨z, n, f⟩ | e
  · cases z
    · exact ⟨n, f, rfl, h⟩
    · exact h.elim
  · exact h.elim
theorem tm_cZ_of {e : tm_Ce} {k : Nat → (Nat → Int32) → Prop} (h : tm_cZ e k) : ∃ n f, e = tm_z n f ∧ k n f := by
  rcases e with ⟨z, n, f⟩ | e
  · cases z
    · exact h.elim
    · exact ⟨n, f, rfl, h⟩
  · exact h.elim
theorem tm_cJ_of {e : tm_Ce} {k : Nat → (Nat → Int64) → Prop} (h : tm_cJ e k) : ∃ n f, e = tm_j n f ∧ k n f := by
  rcases e with ⟨z, n, f⟩ | ⟨n, f⟩ | ⟨n, f⟩ | ⟨n, f⟩
  · cases z <;> exact h.elim
  · exact ⟨n, f, rfl, h⟩
  · exact h.elim
  · exact h.elim
theorem tm_cQ_of {e : tm_Ce} {k : Nat → (Nat → Option Nat) → Prop} (h : tm_cQ e k) : ∃ n f, e = tm_q n f ∧ k n f := by
  rcases e with ⟨z, n, f⟩ | ⟨n, f⟩ | ⟨n, f⟩ | ⟨n, f⟩
  · cases z <;> exact h.elim
  · exact h.elim
  · exact ⟨n, f, rfl, h⟩
  · exact h.elim
theorem tm_cO_of {e : tm_Ce} {ci : Nat} {k : List Value → Prop} (h : tm_cO e ci k) : ∃ fs, e = tm_o ci fs ∧ k fs := by
  rcases e with ⟨z, n, f⟩ | ⟨n, f⟩ | ⟨n, f⟩ | ⟨n, f⟩
  · cases z <;> exact h.elim
  · exact h.elim
  · exact h.elim
  · obtain ⟨h1, h2⟩ := h
    subst h1
    exact ⟨f, rfl, h2⟩
/-- a reference out of an array -/
def tm_rq (r : Option Nat) (k : Nat → Prop) : Prop := match r with
  | some a => k a
  | none => False
theorem tm_rq_e (a : Nat) (k : Nat → Prop) : tm_rq (some a) k = k a := rfl
theorem tm_rq_of {r : Option Nat} {k : Nat → Prop} (h : tm_rq r k) : ∃ a, r = some a ∧ k a := by
  cases r with
  | none => exact h.elim
  | some a => exact ⟨a, rfl, h⟩
/-- a comparison -/
def tm_cp (o : ClassFile.Cond) (x y : Int32) : Prop := match o with
  | .eq => x = y
  | .ne => ¬ x = y
  | .lt => x < y
  | .ge => y ≤ x
  | .gt => y < x
  | .le => x ≤ y
end TMD
section TME
def tm_ot {α : Type} (r : Option α) (k : α → Prop) : Prop := match r with
  | some a => k a
  | none => False
theorem tm_ot_of {α : Type} {r : Option α} {k : α → Prop} (h : tm_ot r k) : ∃ a, r = some a ∧ k a := by
  cases r with
  | none => exact h.elim
  | some a => exact ⟨a, rfl, h⟩
/-- what one instruction asks of the rest k -/
def tm_x (M : tm_M) (lf : Prop) (Q : tm_O → tm_Hp → Prop) (k : Nat → List (Option Value) → List Value → tm_Hp → Prop) (ins : Instr) (len pc : Nat) (L : List (Option Value)) (st : List Value) (h : tm_Hp) : Prop :=
  match ins with
  | .iconst n => len = 1 ∧ k (pc + 1) L (.int (Int32.ofInt n) :: st) h
  | .lconst n => len = 1 ∧ k (pc + 1) L (.long (Int64.ofNat n.val) :: st) h
  | .bipush n => len = 2 ∧ k (pc + 2) L (.int (Int8.ofInt n).toInt32 :: st) h
  | .sipush n => len = 3 ∧ k (pc + 3) L (.int (Int16.ofInt n).toInt32 :: st) h
  | .ldc i => len = 2 ∧ tm_ot (tm_cn (tm_own M) i) (fun v => k (pc + 2) L (.int v :: st) h)
  | .ldc_w i => len = 3 ∧ tm_ot (tm_cn (tm_own M) i) (fun v => k (pc + 3) L (.int v :: st) h)
  | .iload_n i => len = 1 ∧ tm_gI L i.val (fun x => k (pc + 1) L (.int x :: st) h)
  | .iload i => len = 2 ∧ tm_gI L i (fun x => k (pc + 2) L (.int x :: st) h)
  | .aload_n i => len = 1 ∧ tm_gA L i.val (fun x => k (pc + 1) L (.ref x :: st) h)
  | .aload i => len = 2 ∧ tm_gA L i (fun x => k (pc + 2) L (.ref x :: st) h)
  | .istore_n i => len = 1 ∧ i.val < tm_nL M ∧ tm_p1 st (fun x r => k (pc + 1) (L.set i.val (some (.int x))) r h)
  | .istore i => len = 2 ∧ i < tm_nL M ∧ tm_p1 st (fun x r => k (pc + 2) (L.set i (some (.int x))) r h)
  | .astore_n i => len = 1 ∧ i.val < tm_nL M ∧ tm_pA st (fun x r => k (pc + 1) (L.set i.val (some (.ref x))) r h)
  | .astore i => len = 2 ∧ i < tm_nL M ∧ tm_pA st (fun x r => k (pc + 2) (L.set i (some (.ref x))) r h)
  | .iinc i n => len = 3 ∧ i < tm_nL M ∧ tm_gI L i (fun x => k (pc + 3) (L.set i (some (.int (x + Int32.ofInt n)))) st h)
  | .iadd => len = 1 ∧ tm_p1 st (fun y r => tm_p1 r (fun x r => k (pc + 1) L (.int (x + y) :: r) h))
  | .isub => len = 1 ∧ tm_p1 st (fun y r => tm_p1 r (fun x r => k (pc + 1) L (.int (x - y) :: r) h))
  | .imul => len = 1 ∧ tm_p1 st (fun y r => tm_p1 r (fun x r => k (pc + 1) L (.int (x * y) :: r) h))
  | .idiv => len = 1 ∧ tm_p1 st (fun y r => tm_p1 r (fun x r => ¬ y = 0 ∧ k (pc + 1) L (.int (x / y) :: r) h))
  | .iand => len = 1 ∧ tm_p1 st (fun y r => tm_p1 r (fun x r => k (pc + 1) L (.int (x &&& y) :: r) h))
  | .ior => len = 1 ∧ tm_p1 st (fun y r => tm_p1 r (fun x r => k (pc + 1) L (.int (x ||| y) :: r) h))
  | .ixor => len = 1 ∧ tm_p1 st (fun y r => tm_p1 r (fun x r => k (pc + 1) L (.int (x ^^^ y) :: r) h))
  | .ishl => len = 1 ∧ tm_p1 st (fun y r => tm_p1 r (fun x r => k (pc + 1) L (.int (x <<< (y &&& 31)) :: r) h))
  | .ishr => len = 1 ∧ tm_p1 st (fun y r => tm_p1 r (fun x r => k (pc + 1) L (.int (x >>> (y &&& 31)) :: r) h))
  | .iushr => len = 1 ∧ tm_p1 st (fun y r => tm_p1 r (fun x r => k (pc + 1) L (.int ((x.toUInt32 >>> (y.toUInt32 &&& Int32.toUInt32 31)).toInt32) :: r) h))
  | .i2l => len = 1 ∧ tm_p1 st (fun x r => k (pc + 1) L (.long x.toInt64 :: r) h)
  | .lcmp => len = 1 ∧ tm_pJ st (fun y r => tm_pJ r (fun x r => k (pc + 1) L (.int (lg_cmp x y) :: r) h))
  | .dup => len = 1 ∧ tm_pV st (fun v r => k (pc + 1) L (v :: v :: r) h)
  | .pop => len = 1 ∧ tm_pV st (fun _ r => k (pc + 1) L r h)
  | .dup_x1 => len = 1 ∧ tm_pV st (fun v r => tm_pV r (fun w r => k (pc + 1) L (v :: w :: v :: r) h))
  | .dup_x2 => len = 1 ∧ tm_pV st (fun v r => tm_pV r (fun w r => tm_pV r (fun z r => k (pc + 1) L (v :: w :: z :: v :: r) h)))
  | .dup2 => len = 1 ∧ tm_pV st (fun v r => tm_pV r (fun w r => k (pc + 1) L (v :: w :: v :: w :: r) h))
  | .ifCond o off => len = 3 ∧ 0 ≤ (pc : Int) + off ∧ tm_p1 st (fun x r => (tm_cp o x 0 → k ((pc : Int) + off).toNat L r h) ∧ (¬ tm_cp o x 0 → k (pc + 3) L r h))
  | .if_icmp o off => len = 3 ∧ 0 ≤ (pc : Int) + off ∧ tm_p1 st (fun y r => tm_p1 r (fun x r => (tm_cp o x y → k ((pc : Int) + off).toNat L r h) ∧ (¬ tm_cp o x y → k (pc + 3) L r h)))
  | .goto off => len = 3 ∧ 0 ≤ (pc : Int) + off ∧ k ((pc : Int) + off).toNat L st h
  | .getfield i => len = 3 ∧ tm_ot (tm_fl (tm_own M) i) (fun q => tm_pA st (fun a r => tm_cO (h a) q.1 (fun fs => tm_fv fs q.2 (fun v => k (pc + 3) L (v :: r) h))))
  | .putfield i => len = 3 ∧ tm_ot (tm_fp (tm_own M) i) (fun q => bif q.2.2
      then tm_p1 st (fun v r => tm_pA r (fun a r => tm_cO (h a) q.1 (fun fs => q.2.1 < fs.length ∧ k (pc + 3) L r (tm_up h a (tm_o q.1 (fs.set q.2.1 (.int v)))))))
      else tm_pA st (fun v r => tm_pA r (fun a r => tm_cO (h a) q.1 (fun fs => q.2.1 < fs.length ∧ k (pc + 3) L r (tm_up h a (tm_o q.1 (fs.set q.2.1 (.ref v))))))))
  | .iaload => len = 1 ∧ tm_p1 st (fun i r => tm_pA r (fun a r => tm_cI (h a) (fun n f => vp_in i n ∧ k (pc + 1) L (.int (f i.toNatClampNeg) :: r) h)))
  | .baload => len = 1 ∧ tm_p1 st (fun i r => tm_pA r (fun a r => tm_cZ (h a) (fun n f => vp_in i n ∧ k (pc + 1) L (.int (f i.toNatClampNeg) :: r) h)))
  | .laload => len = 1 ∧ tm_p1 st (fun i r => tm_pA r (fun a r => tm_cJ (h a) (fun n f => vp_in i n ∧ k (pc + 1) L (.long (f i.toNatClampNeg) :: r) h)))
  | .aaload => len = 1 ∧ tm_p1 st (fun i r => tm_pA r (fun a r => tm_cQ (h a) (fun n f => vp_in i n ∧ tm_rq (f i.toNatClampNeg) (fun b => k (pc + 1) L (.ref b :: r) h))))
  | .iastore => len = 1 ∧ tm_p1 st (fun x r => tm_p1 r (fun i r => tm_pA r (fun a r => tm_cI (h a) (fun n f => a < tm_K ∧ vp_in i n ∧ k (pc + 1) L r (tm_up h a (tm_i n (upd f i.toNatClampNeg x)))))))
  | .bastore => len = 1 ∧ tm_p1 st (fun x r => tm_p1 r (fun i r => tm_pA r (fun a r => tm_cZ (h a) (fun n f => vp_in i n ∧ k (pc + 1) L r (tm_up h a (tm_z n (upd f i.toNatClampNeg (vp_nar .boolean x))))))))
  | .lastore => len = 1 ∧ tm_pJ st (fun x r => tm_p1 r (fun i r => tm_pA r (fun a r => tm_cJ (h a) (fun n f => vp_in i n ∧ k (pc + 1) L r (tm_up h a (tm_j n (vp_updL f i.toNatClampNeg x)))))))
  | .arraylength => len = 1 ∧ tm_pA st (fun a r => tm_cI (h a) (fun n _ => k (pc + 1) L (.int (nI n) :: r) h))
  | .ireturn => len = 1 ∧ tm_p1 st (fun x r => r = [] ∧ (tm_rt M = some .int ∨ tm_rt M = some .boolean ∧ (x = 0 ∨ x = 1)) ∧ Q (.inl (some (.int x))) h)
  | .areturn => len = 1 ∧ tm_pA st (fun x r => r = [] ∧ (∃ n, tm_rt M = some (.object n)) ∧ Q (.inl (some (.ref x))) h)
  | .return_ => len = 1 ∧ st = [] ∧ tm_rt M = none ∧ Q (.inl none) h
  | .invokestatic _ | .invokevirtual _ | .invokespecial _ | .new _ | .tableswitch .. => lf
  | _ => False
def tm_on (r : Except DecodeError (Instr × Nat)) (k : Instr → Nat → Prop) : Prop := match r with
  | .ok (i, n) => k i n
  | .error _ => False
/-- n instructions at most, up to a place in S -/
def tm_w (M : tm_M) (d u0 : Nat) (Q : tm_O → tm_Hp → Prop) (u : Nat) (S : List Nat) : Nat → Nat → List (Option Value) → List Value → tm_Hp → Prop
  | 0, pc, L, st, h => tm_T M d u0 Q u pc L st h
  | n + 1, pc, L, st, h => bif S.contains pc then tm_T M d u0 Q u pc L st h else
      tm_on (decode (tm_cc M) pc) (fun ins len => tm_x M (tm_T M d u0 Q u pc L st h) Q (tm_w M d u0 Q u S n) ins len pc L st h)
/-- one instruction, whatever S says, then as tm_w -/
def tm_s (M : tm_M) (d u0 : Nat) (Q : tm_O → tm_Hp → Prop) (u : Nat) (S : List Nat) (n pc : Nat) (L : List (Option Value)) (st : List Value) (h : tm_Hp) : Prop :=
  tm_on (decode (tm_cc M) pc) (fun ins len => tm_x M (tm_T M d u0 Q u pc L st h) Q (tm_w M d u0 Q u S n) ins len pc L st h)
theorem tm_w_s (M : tm_M) (d u0 : Nat) (Q : tm_O → tm_Hp → Prop) (u : Nat) (S : List Nat) (n pc : Nat) (L : List (Option Value)) (st : List Value) (h : tm_Hp) :
    tm_w M d u0 Q u S (n + 1) pc L st h = bif S.contains pc then tm_T M d u0 Q u pc L st h else tm_s M d u0 Q u S n pc L st h := rfl
theorem tm_w_0 (M : tm_M) (d u0 : Nat) (Q : tm_O → tm_Hp → Prop) (u : Nat) (S : List Nat) (pc : Nat) (L : List (Option Value)) (st : List Value) (h : tm_Hp) :
    tm_w M d u0 Q u S 0 pc L st h = tm_T M d u0 Q u pc L st h := rfl
end TME
