/-! The machine, seen from above: a world of numbered cells, contracts over it, a step by step condition ('tm_s', 'tm_w') that rows of equations unfold. -/
section TMA
/-- a cell: ints (false) or booleans (true); longs; references to graphs, by number; an object: its class's number in tm_cl, its fields -/
abbrev tm_Ce : Type := (Bool × Nat × (Nat → Int32)) ⊕ ((Nat × (Nat → Int64)) ⊕ ((Nat × (Nat → Option Nat)) ⊕ (Nat × List Value)))
abbrev tm_Hp : Type := Nat → tm_Ce
/-- a value whose reference is a cell's number, as the machine has it -/
def tm_v (ad : Nat → Nat) : Value → Value
  | .ref k => .ref (ad k)
  | v => v
theorem tm_v_cat (ad : Nat → Nat) (v : Value) : (tm_v ad v).category = v.category := by cases v <;> rfl
/-- the addresses; the classes of int[], boolean[], long[], Graph[] -/
abbrev tm_G : Type := (Nat → Nat) × ClassId × ClassId × ClassId × ClassId
def tm_c (g : tm_G) : tm_Ce → va_E
  | .inl (z, n, f) => .inl ((bif z then g.2.2.1 else g.2.1), n, .inl f)
  | .inr (.inl (n, f)) => .inl (g.2.2.2.1, n, .inr (.inl f))
  | .inr (.inr (.inl (n, f))) => .inl (g.2.2.2.2, n, .inr (.inr (.inr (.inr (fun j => (f j).map g.1)))))
  | .inr (.inr (.inr (ci, fs))) => .inr (ci, fs.map (tm_v g.1))
def tm_dead : tm_Ce := .inr (.inr (.inr (1000, [])))
def tm_W (g : tm_G) (h : tm_Hp) : va_W := (List.range tm_K).map (fun k => (g.1 k, tm_c g (h k)))
def tm_ty (g : tm_G) : List (ClassId × FieldType) := [(g.2.1, .int), (g.2.2.1, .boolean), (g.2.2.2.1, .long), (g.2.2.2.2, .object tm_GC)]
def tm_up (h : tm_Hp) (a : Nat) (e : tm_Ce) : tm_Hp := fun k => if k = a then e else h k
theorem tm_up_s (h : tm_Hp) (a : Nat) (e : tm_Ce) : tm_up h a e a = e := if_pos rfl
theorem tm_up_n {h : tm_Hp} {a k : Nat} {e : tm_Ce} (hk : k ≠ a) : tm_up h a e k = h k := if_neg hk
theorem tm_up_up (h : tm_Hp) (a : Nat) (e e' : tm_Ce) : tm_up (tm_up h a e) a e' = tm_up h a e' := by
  funext k
  unfold tm_up
  split <;> rfl
theorem tm_up_id {h : tm_Hp} {a : Nat} {e : tm_Ce} (he : h a = e) : tm_up h a e = h := by
  funext k
  unfold tm_up
  split
  · rename_i q; rw [q, he]
  · rfl
theorem tm_up_c {h : tm_Hp} {a b : Nat} {e e' : tm_Ce} (hab : a ≠ b) : tm_up (tm_up h a e) b e' = tm_up (tm_up h b e') a e := by
  funext k
  unfold tm_up
  by_cases h1 : k = b
  · subst h1
    rw [if_pos rfl, if_neg (fun q => hab q.symm), if_pos rfl]
  · rw [if_neg h1]
    by_cases h2 : k = a
    · rw [if_pos h2, if_pos h2]
    · rw [if_neg h2, if_neg h2, if_neg h1]
theorem tm_W_get (g : tm_G) (h : tm_Hp) {k : Nat} (hk : k < tm_K) : (tm_W g h)[k]? = some (g.1 k, tm_c g (h k)) := by
  unfold tm_W
  rw [List.getElem?_map, List.getElem?_range hk]
  rfl
theorem tm_W_len (g : tm_G) (h : tm_Hp) : (tm_W g h).length = tm_K := by
  unfold tm_W
  rw [List.length_map, List.length_range]
theorem tm_W_at {g : tm_G} {h : tm_Hp} {k : Nat} {q : Nat × va_E} (hq : (tm_W g h)[k]? = some q) : k < tm_K ∧ q = (g.1 k, tm_c g (h k)) := by
  have hl := (List.getElem?_eq_some_iff.mp hq).1
  rw [tm_W_len] at hl
  rw [tm_W_get g h hl] at hq
  exact ⟨hl, (Option.some.inj hq).symm⟩
theorem tm_W_set (g : tm_G) (h : tm_Hp) {k : Nat} (hk : k < tm_K) (e : tm_Ce) : (tm_W g h).set k (g.1 k, tm_c g e) = tm_W g (tm_up h k e) := by
  apply List.ext_getElem?
  intro i
  by_cases hi : i < tm_K
  · rw [tm_W_get g _ hi]
    by_cases hik : k = i
    · subst hik
      rw [List.getElem?_set_self (by rw [tm_W_len]; exact hk), tm_up_s]
    · rw [List.getElem?_set_ne hik, tm_W_get g _ hi, tm_up_n (fun q => hik q.symm)]
  · rw [List.getElem?_eq_none (by rw [List.length_set, tm_W_len]; omega), List.getElem?_eq_none (by rw [tm_W_len]; omega)]
/-- which cells may change: the world's, and those that are new -/
def tm_A (g : tm_G) (sz : Nat) : Nat → Prop := fun q => (∃ k, k < tm_K ∧ q = g.1 k) ∨ sz ≤ q
/-- the addresses are apart; the script's, number tm_K, too -/
def tm_D (g : tm_G) : Prop := ∀ i j, i ≤ tm_K → j ≤ tm_K → g.1 i = g.1 j → i = j
theorem tm_D.va {g : tm_G} (hd : tm_D g) (h : tm_Hp) (sz : Nat) : va_D (tm_A g sz) (tm_W g h) := by
  refine ⟨fun i j p q hi hj e => ?_, fun k q hk => ?_⟩
  · obtain ⟨h1, rfl⟩ := tm_W_at hi
    obtain ⟨h2, rfl⟩ := tm_W_at hj
    exact hd i j (Nat.le_of_lt h1) (Nat.le_of_lt h2) e
  · obtain ⟨h1, rfl⟩ := tm_W_at hk
    exact Or.inl ⟨k, h1, rfl⟩
/-- the script's cell -/
def tm_S (g : tm_G) (h : tm_Hp) (U : State) (H : Heap) : Prop := ∃ (L : Nat) (xs : Nat → Int32), h tm_K = .inl (false, L, xs) ∧ va_X (g.1 tm_K) L xs U H
/-- the world h, in the heap H -/
def tm_R (g : tm_G) (D : va_G) (h : tm_Hp) (U : State) (H : Heap) : Prop := va_P D tm_cl (tm_W g h) H ∧ tm_S g h U H ∧ ∀ k, tm_K < k → h k = tm_dead
theorem tm_R.moved {g : tm_G} {D : va_G} {h : tm_Hp} {u U : State} {H : Heap} (hvm : u.vm.Alike U.vm) (r : tm_R g D h u H) : tm_R g D h U H := by
  obtain ⟨h1, ⟨L, xs, h2, h3⟩, h4⟩ := r
  exact ⟨h1, ⟨L, xs, h2, va_X.moved hvm h3⟩, h4⟩
theorem tm_R.lt {g : tm_G} {D : va_G} {h : tm_Hp} {U : State} {H : Heap} (r : tm_R g D h U H) {k : Nat} (hk : k < tm_K) : g.1 k < H.size := (r.1 k _ (tm_W_get g h hk)).lt
theorem tm_R.ltS {g : tm_G} {D : va_G} {h : tm_Hp} {U : State} {H : Heap} (r : tm_R g D h U H) : g.1 tm_K < H.size := by
  obtain ⟨-, ⟨L, xs, h2, scr, h3, -⟩, -⟩ := r
  exact (Array.getElem?_eq_some_iff.mp h3).1
/-- a cell that isn't dead, and isn't ints, is in the world -/
theorem tm_R.in {g : tm_G} {D : va_G} {h : tm_Hp} {U : State} {H : Heap} (r : tm_R g D h U H) {k : Nat} (hd : h k ≠ tm_dead) (hi : ∀ n f, h k ≠ .inl (false, n, f)) : k < tm_K := by
  obtain ⟨-, ⟨L, xs, h2, -⟩, h4⟩ := r
  rcases Nat.lt_trichotomy k tm_K with q | q | q
  · exact q
  · subst q; exact absurd h2 (hi _ _)
  · exact absurd (h4 k q) hd
/-- behind a change that spares the script -/
theorem tm_S.kept {g : tm_G} {h h' : tm_Hp} {U : State} {H0 H H1 : Heap} {locs locs1 : List Loc} (hd : tm_D g) (hk : h' tm_K = h tm_K) (r : tm_S g h U H) (hS : va_S (tm_A g H0.size) H0 H locs) (hS1 : va_S (tm_A g H0.size) H0 H1 locs1) (hlt : g.1 tm_K < H0.size) : tm_S g h' U H1 := by
  obtain ⟨L, xs, h2, h3⟩ := r
  have hn : ¬ tm_A g H0.size (g.1 tm_K) := by
    rintro (⟨k, h5, h6⟩ | h5)
    · have := hd _ _ (Nat.le_refl _) (Nat.le_of_lt h5) h6
      omega
    · omega
  exact ⟨L, xs, hk.trans h2, va_X.kept h3 ((hS1.2.1 _ hlt hn).trans (hS.2.1 _ hlt hn).symm)⟩
theorem tm_R.kept {g : tm_G} {D : va_G} {h h' : tm_Hp} {U : State} {H0 H H1 : Heap} {locs locs1 : List Loc} (hd : tm_D g) (hk : ∀ k, tm_K ≤ k → h' k = h k) (r : tm_R g D h U H) (hS : va_S (tm_A g H0.size) H0 H locs) (hS1 : va_S (tm_A g H0.size) H0 H1 locs1) (hlt : g.1 tm_K < H0.size) (hP : va_P D tm_cl (tm_W g h') H1) : tm_R g D h' U H1 :=
  ⟨hP, tm_S.kept hd (hk _ (Nat.le_refl _)) r.2.1 hS hS1 hlt, fun k q => (hk k (Nat.le_of_lt q)).trans (r.2.2 k q)⟩
end TMA
section TMB
/-- locals, known or not, by their numbers; those of one slot -/
def tm_la (ad : Nat → Nat) : Nat → List (Option Value) → List (Nat × Value)
  | _, [] => []
  | i, none :: l => tm_la ad (i + 1) l
  | i, some v :: l => if v.category = 1 then (i, tm_v ad v) :: tm_la ad (i + 1) l else tm_la ad (i + 1) l
def tm_l (ad : Nat → Nat) (L : List (Option Value)) : List (Nat × Value) := tm_la ad 0 L
theorem tm_la_in (ad : Nat → Nat) : ∀ (L : List (Option Value)) (o i : Nat) (v : Value), L[i]? = some (some v) → v.category = 1 → (o + i, tm_v ad v) ∈ tm_la ad o L
  | [], _, _, _, h, _ => by simp at h
  | none :: l, o, 0, v, h, _ => by simp at h
  | none :: l, o, i + 1, v, h, hc => by
    have := tm_la_in ad l (o + 1) i v (by simpa using h) hc
    rw [show o + (i + 1) = o + 1 + i by omega]
    exact this
  | some w :: l, o, 0, v, h, hc => by
    have e : w = v := by simpa using h
    subst e
    simp [tm_la, hc]
  | some w :: l, o, i + 1, v, h, hc => by
    have := tm_la_in ad l (o + 1) i v (by simpa using h) hc
    rw [show o + (i + 1) = o + 1 + i by omega]
    simp only [tm_la]
    split
    · exact List.mem_cons_of_mem _ this
    · exact this
theorem tm_la_of (ad : Nat → Nat) : ∀ (L : List (Option Value)) (o : Nat) (q : Nat × Value), q ∈ tm_la ad o L → ∃ i v, q = (o + i, tm_v ad v) ∧ L[i]? = some (some v) ∧ v.category = 1
  | [], _, _, h => by simp [tm_la] at h
  | none :: l, o, q, h => by
    obtain ⟨i, v, e, h1, h2⟩ := tm_la_of ad l (o + 1) q h
    exact ⟨i + 1, v, by rw [e, show o + 1 + i = o + (i + 1) by omega], by simpa using h1, h2⟩
  | some w :: l, o, q, h => by
    simp only [tm_la] at h
    split at h
    · rcases List.mem_cons.mp h with rfl | h
      · exact ⟨0, w, rfl, rfl, by assumption⟩
      · obtain ⟨i, v, e, h1, h2⟩ := tm_la_of ad l (o + 1) q h
        exact ⟨i + 1, v, by rw [e, show o + 1 + i = o + (i + 1) by omega], by simpa using h1, h2⟩
    · obtain ⟨i, v, e, h1, h2⟩ := tm_la_of ad l (o + 1) q h
      exact ⟨i + 1, v, by rw [e, show o + 1 + i = o + (i + 1) by omega], by simpa using h1, h2⟩
theorem tm_l_get {ad : Nat → Nat} {ls : Array Slot} {n i : Nat} {L : List (Option Value)} {v : Value} (h : lv_has ls n (tm_l ad L)) (hi : L[i]? = some (some v)) (hc : v.category = 1) : ls[i]? = some (.val (tm_v ad v)) := by
  have := h.2.2 _ (tm_la_in ad L 0 i v hi hc)
  simpa using this
/-- behind a store -/
theorem tm_l_set {ad : Nat → Nat} {ls' : Array Slot} {n i : Nat} {L : List (Option Value)} {v w : Value} (hw : tm_v ad v = w) (h : lv_has ls' n ((i, w) :: (tm_l ad L).filter (fun q => !(q.1 == i) && !(q.1 + 1 == i && q.2.category == 2)))) : lv_has ls' n (tm_l ad (L.set i (some v))) := by
  refine ⟨h.1, h.2.1, fun q hq => ?_⟩
  obtain ⟨j, u, rfl, h1, h2⟩ := tm_la_of ad _ 0 q hq
  rw [Nat.zero_add] at hq ⊢
  by_cases hj : i = j
  · subst hj
    have hlt : i < L.length := by
      have := (List.getElem?_eq_some_iff.mp h1).1
      rwa [List.length_set] at this
    rw [List.getElem?_set_self hlt] at h1
    cases h1
    rw [hw]
    exact h.2.2 _ List.mem_cons_self
  · rw [List.getElem?_set_ne hj] at h1
    refine h.2.2 _ (List.mem_cons_of_mem _ (List.mem_filter.mpr ⟨?_, ?_⟩))
    · have := tm_la_in ad L 0 j u h1 h2
      rwa [Nat.zero_add] at this
    · have hc : (tm_v ad u).category = 1 := by rw [tm_v_cat]; exact h2
      have hji : ¬ j = i := fun q => hj q.symm
      simp [hc, hji]
theorem tm_l_entry (ad : Nat → Nat) : ∀ (av : List Value) (o k : Nat), (∀ v ∈ av, v.category = 1) → ∀ q ∈ tm_la ad o (av.map some ++ List.replicate k none), q ∈ lv_args o (av.map (tm_v ad))
  | [], o, k, _, q, hq => by
    obtain ⟨i, v, -, h1, -⟩ := tm_la_of ad _ o q hq
    simp only [List.map_nil, List.nil_append] at h1
    have := List.mem_of_getElem? h1
    simp at this
  | v :: l, o, k, hc, q, hq => by
    have h1 : v.category = 1 := hc v List.mem_cons_self
    have h2 : (tm_v ad v).category = 1 := by rw [tm_v_cat]; exact h1
    simp only [List.map_cons, List.cons_append, tm_la, h1, if_true] at hq
    simp only [List.map_cons, lv_args, h2]
    rcases List.mem_cons.mp hq with rfl | hq
    · exact List.mem_cons_self
    · exact List.mem_cons_of_mem _ (tm_l_entry ad l (o + 1) k (fun w hw => hc w (List.mem_cons_of_mem _ hw)) q hq)
theorem tm_sl (ad : Nat → Nat) (av : List Value) (h : ∀ v ∈ av, v.category = 1) : (lg_sl (av.map (tm_v ad))).length = av.length := by
  induction av with
  | nil => rfl
  | cons v l ih =>
    have h2 : (tm_v ad v).category = 1 := by rw [tm_v_cat]; exact h v List.mem_cons_self
    simp only [List.map_cons, lg_sl, List.flatMap_cons, h2]
    have := ih (fun w hw => h w (List.mem_cons_of_mem _ hw))
    simp only [lg_sl] at this
    simp [this]
end TMB
section TMC
def tm_own (M : tm_M) : String := M.1
def tm_y (M : tm_M) : MethodName := M.2.1
def tm_cc (M : tm_M) : ByteArray := M.2.2.1
def tm_nL (M : tm_M) : Nat := M.2.2.2.1
def tm_rt (M : tm_M) : Option FieldType := M.2.2.2.2.1
def tm_hh (M : tm_M) : List (Nat × Nat × Nat × Nat) := M.2.2.2.2.2
/-- what a call came to: an answer, or an exception by its number -/
abbrev tm_O : Type := Option Value ⊕ Nat
def tm_oc (g : tm_G) (s t : State) (o : tm_O) (oc : Outcome) : Prop := match o with
  | .inl v => oc = .returned (v.map (tm_v g.1))
  | .inr k => ∃ (q : Addr) (ce : Cell), oc = .threw q ∧ t.heap[q]? = some ce ∧ ce.vm = .none ∧ s.vm.findClass (tm_ex k) = some ce.cls
def tm_rm (d u0 : Nat) : Room := { frames := d, cells := u0, slots := 6 * u0, locals := 64 * d }
/-- a static field that holds null or a reference -/
def tm_st (C n d : String) (s : State) : Prop := ∃ (c : ClassId) (k : Class) (i : Nat) (f : Field) (a : Nat) (cell : Cell) (v : Value), s.vm.findClass C = some c ∧ s.fieldFound? C n d = some (c, k, i, f) ∧ f.isStatic = true ∧ k.statics = some a ∧ s.heap[a]? = some cell ∧ cell.vm.isStatics = true ∧ cell.cls = c ∧ f.slot < cell.slots.size ∧ k.staticTypes[f.slot]? = some f.type ∧ cell.slots[f.slot]? = some v ∧ v.isRef = true
theorem tm_st.of {C n d : String} {s : State} {args : Array Value} (h1 : (Cond.laysStatic C n d).before args s = true) (h2 : (Cond.isRef (.static C n d)).before args s = true) : tm_st C n d s := by
  obtain ⟨c, k, i, f, a, cell, a1, a2, a3, a4, a5, a6, a7, a8, a9⟩ := Cond.laysStatic_spec h1
  have he : (Term.static C n d).eval args s none [] s = cell.slots[f.slot]? := by
    simp [Term.eval, State.fieldNamed?, a2, a3, a4, a5, a6]
  have hv : cell.slots[f.slot]? = some cell.slots[f.slot] := Array.getElem?_eq_getElem a8
  rw [hv] at he
  refine ⟨c, k, i, f, a, cell, _, a1, a2, a3, a4, a5, a6, a7, a8, a9, hv, ?_⟩
  simp only [Cond.before, Cond.holds, Cond.value, he] at h2
  cases hw : cell.slots[f.slot] <;> first | rfl | (rw [hw] at h2; simp at h2)
theorem tm_st.lays {C n d : String} {s : State} {args : Array Value} (h : tm_st C n d s) : (Cond.laysStatic C n d).before args s = true := by
  obtain ⟨c, k, i, f, a, cell, v, a1, a2, a3, a4, a5, a6, a7, a8, a9, -, -⟩ := h
  exact Cond.laysStatic_of a1 a2 a3 a4 a5 a6 a7 a8 a9
theorem tm_st.isRef {C n d : String} {s : State} {args : Array Value} (h : tm_st C n d s) : (Cond.isRef (.static C n d)).before args s = true := by
  obtain ⟨c, k, i, f, a, cell, v, a1, a2, a3, a4, a5, a6, a7, a8, a9, a10, a11⟩ := h
  have he : (Term.static C n d).eval args s none [] s = some v := by
    simp [Term.eval, State.fieldNamed?, a2, a3, a4, a5, a6, a10]
  simp only [Cond.before, Cond.holds, Cond.value, he]
  cases v <;> simp_all [Value.isRef]
theorem tm_st.at {C n d : String} {s U : State} (hvm : s.vm.Alike U.vm) (hst : ∀ (a : Nat) (cell : Cell), s.heap[a]? = some cell → cell.vm.isStatics = true → U.heap[a]? = some cell) (h : tm_st C n d s) : tm_st C n d U := by
  obtain ⟨c, k, i, f, a, cell, v, a1, a2, a3, a4, a5, a6, a7, a8, a9, a10, a11⟩ := h
  obtain ⟨k', hi', he⟩ := State.fieldFound?_setVm hvm a2
  exact ⟨c, k', i, f, a, cell, v, by rw [hvm.findClass]; exact a1, hi', a3, by rw [he]; exact a4, hst a cell a5 a6, a6, a7, a8, by rw [he]; exact a9, a10, a11⟩
theorem tm_nostat {D : va_G} {q : Nat × va_E} {H : Heap} {cell : Cell} (h : va_at D tm_cl q H) (hc : H[q.1]? = some cell) : cell.vm.isStatics = false := by
  obtain ⟨a, e⟩ := q
  cases e with
  | inl x =>
    have h' : H[a]? = some (vp_cell x.1 x.2) := h
    obtain rfl := Option.some.inj (h'.symm.trans hc)
    unfold vp_cell
    split <;> rfl
  | inr o =>
    obtain ⟨r, -, cell', h1, h2, h3, h4⟩ := h
    obtain rfl := Option.some.inj (h1.symm.trans hc)
    rw [h3]; rfl
/-- what stays from state to state beside the words: the heads of exceptions -/
def tm_X (s : State) : Prop := (∀ q ∈ tm_sts, tm_st q.1 q.2.1 q.2.2 s) ∧ (∀ q ∈ tm_strs, ∃ a, vk_R q.1 q.2.1 q.2.2 a s) ∧ ∀ q ∈ tm_ncs, va_Nc q.1 q.2 s
def tm_E (g : tm_G) (D : va_G) (s : State) : Prop := va_K D tm_cl (tm_ty g) s ∧ tm_D g ∧ tm_X s
def tm_F (M : tm_M) (p : Program) (s : State) (m : MethodId) (args : Array Value) (meth : Method) (c : Code) : Prop :=
  p.tables.exec = Jvm.exec ∧ c.code = tm_cc M ∧ c.maxLocals = tm_nL M ∧ s.vm.findClass (tm_own M) = some m.cls ∧ (∀ w ∈ tm_ws, w.before args s = true) ∧ meth.sig.returnType = tm_rt M ∧ meth.locks = false ∧ c.exceptionTable.toList = tableOf (tm_hh M)
/-- a method's end: o and the world h' with Q; what was there before and isn't the world's is as it was -/
def tm_En (g : tm_G) (D : va_G) (Q : tm_O → tm_Hp → Prop) (u0 : Nat) (s : State) (oc : Outcome) (t : State) : Prop :=
  ∃ (o : tm_O) (h' : tm_Hp) (Ls : List Loc), Q o h' ∧ tm_oc g s t o oc ∧ tm_R g D h' s t.heap ∧ va_F (tm_A g s.heap.size) s t ∧ s.WarmedH t.vm ∧ s.sameButNew ({ t with vm := s.vm } : State) Ls u0 (6 * u0) ∧ ∀ q ∈ Ls, tm_A g s.heap.size q.base
def tm_Z (below : List Frame) (g : tm_G) (D : va_G) (Q : tm_O → tm_Hp → Prop) (u0 : Nat) (s : State) : State → Prop := fun t =>
  ∃ oc, t.status = .running ∧ Ended t below oc ∧ tm_En g D Q u0 s oc t
/-- THE JUDGEMENT: from the frame at pc with these locals, this stack and the world h, u throws paid of u0, the method comes to its end with Q -/
def tm_T (M : tm_M) (d u0 : Nat) (Q : tm_O → tm_Hp → Prop) (u pc : Nat) (L : List (Option Value)) (st : List Value) (h : tm_Hp) : Prop :=
  ∀ (p : Program) (l : Launch) (e : Env) (s : State) (m : MethodId) (args : Array Value) (below : List Frame) (meth : Method) (c : Code) (H : Heap) (locs : List Loc) (ls : Array Slot) (g : tm_G) (D : va_G),
    l.stackTraces = false → tm_F M p s m args meth c → tm_E g D s → (∃ h0, tm_R g D h0 s s.heap) → tm_R g D h s H → va_S (tm_A g s.heap.size) s.heap H locs → lv_has ls (tm_nL M) (tm_l g.1 L) → u ≤ u0 →
    W p l e (tm_rm d u0) s m args below meth c H locs u (6 * u) (tm_Z below g D Q u0 s) (F0 m pc ls (st.map (tm_v g.1)))
def tm_cd (M : tm_M) : Cond := if tm_hh M = [] then .code (tm_y M) (tm_cc M) (tm_nL M) (tm_rt M) else .codeWith (tm_y M) (tm_cc M) (tm_nL M) (tm_rt M) (tm_hh M)
/-- A CONTRACT: called with av in the world h, the method comes to an end with Q; it needs d frames, throws at most u0 times -/
def tm_C (M : tm_M) (d u0 : Nat) (av : List Value) (h : tm_Hp) (Q : tm_O → tm_Hp → Prop) : Prop :=
  ∀ (l : Launch) (g : tm_G) (D : va_G), l.stackTraces = false →
    MetFree l (tm_y M) (headSpec (tm_cd M :: tm_ws) (tm_rm d u0)) (fun a U => a = (av.map (tm_v g.1)).toArray ∧ tm_E g D U ∧ tm_R g D h U U.heap) (fun _ _ _ _ _ => True) (fun _ st oc t => tm_En g D Q u0 st oc t)
theorem tm_W_mono {p : Program} {l : Launch} {e : Env} {R : Room} {s : State} {m : MethodId} {args : Array Value} {below : List Frame} {meth : Method} {c : Code} {H : Heap} {locs : List Loc} {cells slots : Nat} {Q Q' : State → Prop} {g : JFrame} (hq : ∀ t, Q t → Q' t) (w : W p l e R s m args below meth c H locs cells slots Q g) : W p l e R s m args below meth c H locs cells slots Q' g := by
  intro T hT X
  obtain ⟨t, a, b⟩ := w T hT X
  exact ⟨t, a, hq t b⟩
theorem tm_En.mono {g : tm_G} {D : va_G} {Q Q' : tm_O → tm_Hp → Prop} {u0 : Nat} {s t : State} {oc : Outcome} (hq : ∀ o h, Q o h → Q' o h) (x : tm_En g D Q u0 s oc t) : tm_En g D Q' u0 s oc t := by
  obtain ⟨o, h', Ls, h1, h2⟩ := x
  exact ⟨o, h', Ls, hq _ _ h1, h2⟩
theorem tm_T.mono {M : tm_M} {d u0 u pc : Nat} {Q Q' : tm_O → tm_Hp → Prop} {L : List (Option Value)} {st : List Value} {h : tm_Hp} (hq : ∀ o h, Q o h → Q' o h) (x : tm_T M d u0 Q u pc L st h) : tm_T M d u0 Q' u pc L st h := by
  intro p l e s m args below meth c H locs ls g D h1 h2 h3 h4 h5 h6 h7 h8
  refine tm_W_mono ?_ (x p l e s m args below meth c H locs ls g D h1 h2 h3 h4 h5 h6 h7 h8)
  rintro t ⟨oc, a1, a2, a3⟩
  exact ⟨oc, a1, a2, a3.mono hq⟩
theorem tm_C.mono {M : tm_M} {d u0 : Nat} {av : List Value} {h : tm_Hp} {Q Q' : tm_O → tm_Hp → Prop} (hq : ∀ o h, Q o h → Q' o h) (x : tm_C M d u0 av h Q) : tm_C M d u0 av h Q' := by
  intro l g D h1 p e h2 h3 h4 s m args below h5 h6 h7 h8
  obtain ⟨n, o, a1, a2, a3, a4⟩ := x l g D h1 p e h2 h3 h4 s m args below h5 h6 h7 h8
  exact ⟨n, o, a1, a2, a3, a4.mono hq⟩
/-- a contract out of the walk of its body -/
theorem tm_C.of {M : tm_M} {d u0 : Nat} {av : List Value} {h : tm_Hp} {Q : tm_O → tm_Hp → Prop} (hy : plainFor (tm_y M) = true) (ho : (tm_y M).cls = tm_own M) (hc : ∀ v ∈ av, v.category = 1) (hn : av.length ≤ tm_nL M)
    (hT : tm_T M d u0 Q 0 0 (av.map some ++ List.replicate (tm_nL M - av.length) none) [] h) : tm_C M d u0 av h Q := by
  intro l g D hl
  refine MetFree.of_bodySF (code := tm_cc M) (maxLocals := tm_nL M) (ret := tm_rt M) hy ?_ ?_
  · intro args s m h1 hn1
    have hw := atoms_spec (ws := tm_cd M :: tm_ws) h1 _ List.mem_cons_self
    unfold tm_cd at hw
    split at hw
    · obtain ⟨meth, c, h1, h2, h3, h4, h5, h6, -, -⟩ := Cond.code_spec hn1 hw
      exact ⟨meth, c, h1, h2, h3, h4, h5, h6⟩
    · obtain ⟨m9, meth, c, hn9, h1, h2, h3, h4, -, h5, h6, -⟩ := Cond.codeWith_spec hw
      cases hn1.symm.trans hn9
      exact ⟨meth, c, h1, h2, h3, h4, h5, h6⟩
  · intro p e s m args below meth c s₁ B hml hP _
    obtain ⟨rfl, hE, hR⟩ := hP
    have hh0 : s₁.heap = s.heap := by rw [B.state]; rfl
    have hts := atoms_spec (ws := tm_cd M :: tm_ws) B.pre
    have hown : s.vm.findClass (tm_own M) = some m.cls := by rw [← ho]; exact findClass_of_methodNamed B.named
    have htab : c.exceptionTable.toList = tableOf (tm_hh M) := by
      have hw := hts _ List.mem_cons_self
      unfold tm_cd at hw
      split at hw
      · rename_i hh
        obtain ⟨meth9, c9, h1, h2, -, -, -, -, h7, -⟩ := Cond.code_spec B.named hw
        cases h1.symm.trans B.method
        cases h2.symm.trans (Stand.of_body B).code
        rw [hh, Array.isEmpty_iff.mp h7]
        rfl
      · obtain ⟨m9, meth9, c9, hn9, h1, h2, -, -, h6, -⟩ := Cond.codeWith_spec hw
        cases hn9.symm.trans B.named
        cases h1.symm.trans B.method
        cases h2.symm.trans (Stand.of_body B).code
        rw [← h6, table_eq]
    have hlen := tm_sl g.1 av hc
    have hl0 := lv_entry (av.map (tm_v g.1)) (n := tm_nL M) (by rw [hlen]; exact hn)
    have hl2 : lv_has ((lg_sl (av.map (tm_v g.1)) ++ List.replicate (tm_nL M - (lg_sl (av.map (tm_v g.1))).length) Slot.unset).toArray) (tm_nL M) (tm_l g.1 (av.map some ++ List.replicate (tm_nL M - av.length) none)) :=
      ⟨hl0.1, hl0.2.1, fun q hq => hl0.2.2 q (tm_l_entry g.1 av 0 _ hc q hq)⟩
    have w := hT p l e s m (av.map (tm_v g.1)).toArray below meth c s.heap [] _ g D hl ⟨B.exec, B.bytes, hml, hown, fun w hw => hts w (List.mem_cons_of_mem _ hw), B.returns, B.notSynchronized, htab⟩ hE ⟨h, hR⟩ hR va_S.rf hl2 (Nat.zero_le _)
    obtain ⟨t, a1, oc, b1, b2, b3⟩ := w s₁ hh0 (Stand.of_body B)
    refine ⟨t, oc, ?_, b1, b2, b3⟩
    rw [lg_entry_eq]
    exact a1
end TMC
