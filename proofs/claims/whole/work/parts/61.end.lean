section DF
def R_law : String := "GraphNamerLaw"
def lw_P (b : Addr) (xs : List Int32) (args : Array Value) (s : State) : Prop := args = #[.ref b] ∧ s.IntsAt b xs ∧ xs.length ≤ 2560 ∧ (Jvm.Cond.and given_1 narrow_1).before args s = true
def lw_Q (_ : Array Value) (s : State) (o : Outcome) (t : State) : Prop := o = .returned (some (.int 1)) ∧ Framed s o t [] 632186 7199547
def lw_Z (below : List Frame) (a : Array Value) (s : State) : State → Prop := fun t => ∃ o, t.status = .running ∧ Ended t below o ∧ lw_Q a s o t
/-- the law's own end, with 1 on the stack, nothing written that was there before, its room as the claim has it -/
theorem lw_ret {p : Program} {l : Launch} {e : Env} {s : State} {m : MethodId} {below : List Frame} {meth : Method} {c : Code} {b : Nat} (hx : p.tables.exec = Jvm.exec) (hb : c.code = code) (hr : meth.sig.returnType = ret) (hlocks : meth.locks = false) {pc : Nat} {H : Heap} {ls : Array Slot} (hdg : decode code pc = .ok (.ireturn, 1)) : W p l e room_1 s m #[Value.ref b] below meth c H [] 632186 7199547 (lw_Z below #[Value.ref b] s) (F0 m pc ls [.int 1]) := by
  intro T hT X
  obtain ⟨fs, hret, hrun, hended, hW, hframe⟩ := X.leave (v := some (.int 1)) (hlocks := hlocks) (fun h => by rw [hr] at h; cases h)
  have hmeth' : T.vm.method? m = some meth := X.method'
  refine ⟨T.setFrames fs, ?_, .returned (some (.int 1)), hrun, hended, rfl, ⟨_, rfl⟩, hW, hframe⟩
  jvm_step X.here [X.here.top, hx, hb, hdg, hmeth', hr, ret, narrow_b1]
  (try refine ⟨rfl, ?_⟩); (try refine ⟨rfl, ?_⟩)
  first | (intro acts; rw [hret _ acts rfl rfl rfl]) | rw [hret _ _ rfl rfl rfl]
  exact Steps.refl _
/-- what holds at the law's entry: the machine, the code, the tables' words (any of lw_tbl by 'hts w (by decide +kernel)'), the script of L ints xs at the cell b, what the Statement gives of the start (any of its parts by flat_of_before) -/
def lw_At (p : Program) (s : State) (m : MethodId) (meth : Method) (c : Code) (b L : Nat) (xs : Nat → Int32) : Prop :=
  p.tables.exec = Jvm.exec ∧ c.code = code ∧ meth.sig.returnType = ret ∧ c.maxLocals = 7 ∧ s.vm.findClass R_law = some m.cls ∧ (∀ w ∈ lw_tbl, w.before #[Value.ref b] s = true) ∧ va_X b L xs s s.heap ∧ b < s.heap.size ∧ meth.locks = false ∧ (Jvm.Cond.and given_1 narrow_1).before #[Value.ref b] s = true
theorem st_end {p : Program} {l : Launch} {e : Env} {s : State} {m : MethodId} {below : List Frame} {meth : Method} {c : Code} {b L : Nat} {xs : Nat → Int32} (hl9 : l.stackTraces = false) (hL : L ≤ 2560) (C0 : lw_At p s m meth c b L xs) (htab : c.exceptionTable.toList = []) {H : Heap} {locs : List Loc} {ls : Array Slot} {g : tm_G} {D : va_G} (hg39 : g.1 39 = b) (hP : va_P D tm_cl (tm_W g (hI L xs)) H) (hD : tm_D g) (hge : ∀ k, k < 39 → s.heap.size ≤ g.1 k) (hK : va_K D tm_cl (tm_ty g) s) (hXX : tm_X s)
    (hS : va_S (fun q => s.heap.size ≤ q) s.heap H locs) (hl : lv_has ls 7 (tm_l g.1 [some (.ref 39), some (.ref 0), some (.ref 27), some (.ref 38), some (.int (nI 0)), none, none])) : W p l e room_1 s m #[Value.ref b] below meth c H locs 39 427 (lw_Z below #[Value.ref b] s) (F0 m 23 ls []) := by
  obtain ⟨hx, hb, hr, hml, hown, hts, hX, hbl, hlocks, hgv⟩ := C0
  refine va_forget (fun q hq => hS.2.2 q hq) ?_
  intro T hT X
  have Y := tm_anew X (R' := tm_rm 24 2560) (by decide) (by decide) (by decide) (by decide)
  obtain ⟨s', hs'⟩ : ∃ z, z = (T.setVm s.vm).setFrames (.invoking m #[Value.ref b] :: below) := ⟨_, rfl⟩
  rw [← hs'] at Y
  have hvm : s'.vm = s.vm := by rw [hs']; rfl
  have hhp : s'.heap = H := by rw [hs']; exact hT
  have hW0 : s.WarmedH s'.vm := by rw [hvm]; exact State.WarmedH.refl s
  obtain ⟨f1, f2⟩ := tm_same (U := T) X.same
  rw [hT] at f1 f2
  have hal := hW0.alike
  obtain ⟨x1, x2, x3⟩ := hXX
  have hE : tm_E g D s' := by
    refine ⟨va_K.moved hal hK, hD, fun q hq => (x1 q hq).at hal (fun a cell ha _ => ?_), fun q hq => ?_, fun q hq => (x3 q hq).moved hal⟩
    · rw [hhp, f2 a (Array.getElem?_eq_some_iff.mp ha).1]; exact ha
    · obtain ⟨a, ha⟩ := x2 q hq
      exact ⟨a, vk_R.warm hW0 ha⟩
  have hR : tm_R g D (hI L xs) s' H := by
    refine ⟨hP, ⟨L, xs, rfl, ?_⟩, fun k hk => ?_⟩
    · have h1 : va_X b L xs s' s.heap := va_X.moved hal hX
      show va_X (g.1 39) L xs s' H
      rw [hg39]
      exact va_X.kept h1 (f2 b hbl)
    · match k, hk with
      | k + 40, _ => rfl
  have hF : tm_F M_L_law p s' m #[Value.ref b] meth c := ⟨hx, hb, hml, by rw [hvm]; exact hown, tm_ws_at hW0 (fun w hw => hts w (List.mem_filter.mp hw).1), hr, hlocks, htab⟩
  have w := l_law (u0 := 2560) (N := L) (xs := xs) (Q := fun o _ => o = .inl (some (.int 1))) hL hL (fun _ => rfl) L 0 0 S0 0 (hI L xs) (fun _ => 0) none none (by omega) (Nat.zero_le _) (Nat.le_refl _) (hI_X L xs) (hI_Y L xs) rfl rfl
    p l e s' m #[Value.ref b] below meth c H [] ls g D hl9 hF hE ⟨_, by rw [hhp]; exact hR⟩ hR (by rw [hhp]; exact va_S.rf) hl (Nat.zero_le _)
  obtain ⟨t, a1, oc, b1, b2, o, h', Ls, q1, q2, q3, q4, q5, q6, q7⟩ := w T hT Y
  subst q1
  have q2' : oc = .returned (some (.int 1)) := q2
  refine ⟨t, a1, oc, b1, b2, q2', ⟨_, q2'⟩, State.WarmedH.trans hW0 q5, ?_⟩
  have q7' : ∀ x ∈ Ls, x.base < s.heap.size → x ∈ ([] : List Loc) := by
    intro x hx hlt
    rcases q7 x hx with ⟨k, hk, e1⟩ | e1
    · have := hge k hk
      exact absurd hlt (by rw [e1]; exact Nat.not_lt.mpr this)
    · rw [hhp] at e1
      exact absurd hlt (Nat.not_lt.mpr (Nat.le_trans f1 e1))
  subst hs'
  obtain ⟨e1, e2⟩ := q6
  rw [State.setFrames_setFrames] at e1
  have g2 : (T.setVm s.vm).sameButNew ({ t with vm := s.vm } : State) Ls 2560 (6 * 2560) := ⟨e1, e2⟩
  have g3 := X.same.trans g2
  exact g3.weaken (fun x hx hlt => q7' x (by simpa using hx) hlt) (by decide) (by decide)
theorem st_fin {p : Program} {l : Launch} {e : Env} {s : State} {m : MethodId} {below : List Frame} {meth : Method} {c : Code} {b L : Nat} {xs : Nat → Int32} (hl9 : l.stackTraces = false) (hL : L ≤ 2560) (C0 : lw_At p s m meth c b L xs) (htab : c.exceptionTable.toList = []) {H : Heap} {locs : List Loc} {ls : Array Slot} {g : tm_G} {D : va_G} (hg39 : g.1 39 = b) (hP : va_P D tm_cl (tm_W g (hI L xs)) H) (hD : va_D (fun q => s.heap.size ≤ q) (tm_W g (hI L xs))) (hK : va_K D tm_cl (tm_ty g) s) (hXX : tm_X s)
    (hS : va_S (fun q => s.heap.size ≤ q) s.heap H locs) (hl : lv_has ls 7 (tm_l g.1 [some (.ref 39), some (.ref 0), some (.ref 27), some (.ref 38), some (.int (nI 0)), none, none])) : W p l e room_1 s m #[Value.ref b] below meth c H locs 39 427 (lw_Z below #[Value.ref b] s) (F0 m 23 ls []) := by
  have hge : ∀ k, k < 39 → s.heap.size ≤ g.1 k := fun k hk => hD.2 k _ (tm_W_get g _ hk)
  have inj : ∀ i j, i < 39 → j < 39 → g.1 i = g.1 j → i = j := fun i j hi hj e => hD.1 i j _ _ (tm_W_get g _ hi) (tm_W_get g _ hj) e
  have hbl : b < s.heap.size := C0.2.2.2.2.2.2.2.1
  refine st_end hl9 hL C0 htab (g := g) hg39 hP (fun i j hi hj e => ?_) hge hK hXX hS hl
  have hK9 : tm_K = 39 := rfl
  rw [hK9] at hi hj
  rcases Nat.lt_or_ge i 39 with q1 | q1 <;> rcases Nat.lt_or_ge j 39 with q2 | q2
  · exact inj i j q1 q2 e
  · have hj9 : j = 39 := by omega
    rw [hj9, hg39] at e
    have := hge i q1
    omega
  · have hi9 : i = 39 := by omega
    rw [hi9, hg39] at e
    have := hge j q2
    omega
  · omega
end DF
