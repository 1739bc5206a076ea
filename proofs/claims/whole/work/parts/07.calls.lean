section TMI
theorem tm_kp_at {args a' : Array Value} {s U : State} (hW : s.WarmedH U.vm) {w : Cond} (hk : tm_kp w = true) (hw : w.before args s = true) : w.before a' U = true := by
  have key : (w.onTables && (w.keepsH || w.keepsFace)) = true → w.before a' U = true := by
    intro hk
    simp only [Bool.and_eq_true, Bool.or_eq_true] at hk
    obtain ⟨h1, h2⟩ := hk
    rcases h2 with h2 | h2
    · have := Cond.onTables_warmH (T := U) (args' := a') hW h1 h2 hw
      rwa [State.setVm_self] at this
    · have h3 : w.before args (s.setVm U.vm) = true := Cond.before_shiftedFace (State.Shifted.of_warmed hW) w h2 hw
      rw [Cond.onTables_vm (A' := a') (U' := U) U.vm w h1] at h3
      rwa [State.setVm_self] at h3
  cases w <;> first | exact key hk | exact word_at hW (Or.inr ⟨_, rfl⟩) hw
theorem tm_ws_at {args a' : Array Value} {s U : State} (hW : s.WarmedH U.vm) (h : ∀ w ∈ tm_ws, w.before args s = true) : ∀ w ∈ tm_ws, w.before a' U = true :=
  fun w hw => tm_kp_at hW (tm_ws_kp w hw) (h w hw)
/-- the heads of exceptions, in a heap where what isn't ours is as it was -/
theorem tm_X.at {g : tm_G} {D : va_G} {s U : State} {locs : List Loc} (hW : s.WarmedH U.vm) (h0 : ∃ h0, tm_R g D h0 s s.heap) (hS : va_S (tm_A g s.heap.size) s.heap U.heap locs) (hX : tm_X s) : tm_X U := by
  obtain ⟨h1, h2, h3⟩ := hX
  obtain ⟨h0, hR0⟩ := h0
  refine ⟨?_, fun q hq => ?_, fun q hq => (h3 q hq).moved hW.alike⟩
  · have hst : ∀ (a : Nat) (cell : Cell), s.heap[a]? = some cell → cell.vm.isStatics = true → U.heap[a]? = some cell := by
      intro a cell ha hs
      have hlt := (Array.getElem?_eq_some_iff.mp ha).1
      rw [hS.2.1 a hlt ?_, ha]
      rintro (⟨k, hk, rfl⟩ | q)
      · have := hR0.1 k _ (tm_W_get g h0 hk)
        have hf := tm_nostat this ha
        rw [hf] at hs
        cases hs
      · omega
    exact fun q hq => (h1 q hq).at hW.alike hst
  · obtain ⟨a, ha⟩ := h2 q hq
    exact ⟨a, vk_R.warm hW ha⟩
theorem tm_E.at {g : tm_G} {D : va_G} {s U : State} {locs : List Loc} (hW : s.WarmedH U.vm) (h0 : ∃ h0, tm_R g D h0 s s.heap) (hS : va_S (tm_A g s.heap.size) s.heap U.heap locs) (hE : tm_E g D s) : tm_E g D U :=
  ⟨va_K.moved hW.alike hE.1, hE.2.1, hE.2.2.at hW h0 hS⟩
theorem tm_E.calling {g : tm_G} {D : va_G} {U : State} {fr : JFrame} {mk : MethodId} {a : Array Value} (hE : tm_E g D U) : tm_E g D (U.calling fr mk a) := by
  obtain ⟨h1, h2, h3, h4, h5⟩ := hE
  refine ⟨va_K.moved (u := U) (U := U.calling fr mk a) (Vm.Alike.refl U.vm) h1, h2, fun q hq => (h3 q hq).at (Vm.Alike.refl U.vm) (fun _ _ h _ => h), fun q hq => ?_, fun q hq => (h5 q hq).moved (Vm.Alike.refl U.vm)⟩
  obtain ⟨b, hb⟩ := h4 q hq
  exact ⟨b, vk_R.same rfl hb⟩
/-- a callee's way, to its return or to its throw -/
theorem tm_back {p : Program} {l : Launch} {e : Env} {R : Room} {s : State} {m : MethodId} {sargs : Array Value} {below : List Frame} {meth : Method} {c : Code} {U : State} {Ls : List Loc} {c0 s0 : Nat} (X : Stand p l e R s m sargs below meth c U Ls c0 s0)
    {y : MethodName} {S : Spec} {P : Array Value → State → Prop} {K : Program → Env → List Frame → State → Array Value → Prop} {Qf : Array Value → State → Outcome → State → Prop} {g : JFrame} {ig : Instr} {len k n : Nat} {mk : MethodId} {a : Array Value} {Pq : List Loc → Prop}
    (hg : g.method = m) (hdg : decode c.code g.pc = .ok (ig, len)) (hM : MetFree l y S P K Qf) (happ : S.appliesLoose y e.platform (U.calling g mk a) = true) (hP : P a (U.calling g mk a)) (hK : K p e (U.setTop g).frames (U.calling g mk a) a)
    (hQ : ∀ o t, Qf a (U.calling g mk a) o t → ∃ L, (U.calling g mk a).WarmedH t.vm ∧ (U.calling g mk a).sameButNew ({ t with vm := (U.calling g mk a).vm } : State) L k n ∧ Pq L) :
    ∃ (o : Outcome) (t : State) (L : List Loc) (T' : State), Qf a (U.calling g mk a) o t ∧ Pq L ∧ Stand p l e R s m sargs below meth c T' (Ls ++ L) (c0 + k) (s0 + n) ∧ T'.heap = t.heap ∧
      ((∃ v, o = .returned v ∧ Steps p.tables e below (doInvoke e (U.setTop g) [] mk a).1 (T'.setTop { g with pc := g.pc + len, stack := v.toList ++ g.stack })) ∨
       (∃ x, o = .threw x ∧ Steps p.tables e below (doInvoke e (U.setTop g) [] mk a).1 ((T'.setTop g).pushFrame (.throwing x)))) := by
  have h : At U g.method c below := by rw [hg]; exact X.here
  obtain ⟨mid, hmid⟩ := h.above
  have hfr : (U.setTop g).frames = (.java g :: mid) ++ below := by rw [State.frames_setTop' g h.top, hmid]; rfl
  obtain ⟨o, t, hsteps, -, hend, hq⟩ := Steps.callFree hM p X.admits X.cas X.clock (acts := []) hfr happ hP hK
  rw [State.frames_setTop' g h.top, X.tail] at hend
  obtain ⟨L, hW, hsm, hL⟩ := hQ o t hq
  cases o with
  | returned v =>
    obtain ⟨T', X', -, -, ht⟩ := X.outOf hg hdg hend hW hsm
    refine ⟨_, t, L, T', hq, hL, X', ?_, Or.inl ⟨v, rfl, ?_⟩⟩
    · rw [ht]; rfl
    · rw [← ht]; exact hsteps
  | threw x =>
    obtain ⟨T', X', -, -, ht⟩ := X.outOfThrown hg hend hW hsm
    refine ⟨_, t, L, T', hq, hL, X', ?_, Or.inr ⟨x, rfl, ?_⟩⟩
    · rw [ht]; rfl
    · rw [← ht]; exact hsteps
end TMI
theorem tm_cov {b : Bool} (h : (!b) = true) : b = false := by cases b <;> first | rfl | cases h
section TMJ
/-- the frame at pc in which exception number k is on its way -/
def tm_H (M : tm_M) (d u0 : Nat) (Q : tm_O → tm_Hp → Prop) (u pc : Nat) (L : List (Option Value)) (k : Nat) (h : tm_Hp) : Prop :=
  ∀ (p : Program) (l : Launch) (e : Env) (s : State) (m : MethodId) (args : Array Value) (below : List Frame) (meth : Method) (c : Code) (H : Heap) (locs : List Loc) (ls : Array Slot) (g : tm_G) (D : va_G) (q : Addr) (ce : Cell) (rest : List Value),
    l.stackTraces = false → tm_F M p s m args meth c → tm_E g D s → (∃ h0, tm_R g D h0 s s.heap) → tm_R g D h s H → va_S (tm_A g s.heap.size) s.heap H locs → lv_has ls (tm_nL M) (tm_l g.1 L) → u ≤ u0 →
    H[q]? = some ce → ce.vm = .none → s.vm.findClass (tm_ex k) = some ce.cls →
    ∀ T : State, T.heap = H → Stand p l e (tm_rm d u0) s m args below meth c T locs u (6 * u) → ∃ t, Steps p.tables e below ((T.setTop (F0 m pc ls rest)).pushFrame (.throwing q)) t ∧ tm_Z below g D Q u0 s t
variable {M : tm_M} {d u0 u : Nat} {Q : tm_O → tm_Hp → Prop} {pc : Nat} {L : List (Option Value)} {st : List Value} {h : tm_Hp}
theorem tm_H_out {k : Nat} (hout : (tableOf (tm_hh M)).all (fun x => !covers x pc) = true) (hq : Q (.inr k) h) : tm_H M d u0 Q u pc L k h := by
  intro p l e s m args below meth c H locs ls g D q ce rest h1 h2 h3 h4 h5 h6 h7 h8 h9 h10 h11 T hT X
  have ho : ∀ x ∈ c.exceptionTable.toList, covers x pc = false := by
    intro x hx
    rw [h2.2.2.2.2.2.2.2] at hx
    have hc9 := List.all_eq_true.mp hout x hx
    exact tm_cov hc9
  obtain ⟨st1, hrun, hend, hW, hsm⟩ := X.leaveThrown q (g := F0 m pc ls rest) rfl rfl rfl ho h2.2.2.2.2.2.2.1
  refine ⟨_, st1, .threw q, hrun, hend, .inr k, h, locs, hq, ⟨q, ce, rfl, ?_, h10, h11⟩, ?_, ?_, hW, hsm.mono h8 (by omega), h6.2.2⟩
  · show T.heap[q]? = some ce
    rw [hT]; exact h9
  · show tm_R g D h s T.heap
    rw [hT]; exact h5
  · exact h6.F hT
/-- a method that can be called -/
def tm_ok (N : tm_M) : Prop := tm_cd N ∈ tm_ws ∧ Cond.initialized (tm_y N).cls ∈ tm_ws ∧ (tm_y N).cls ≠ "java/lang/invoke/MethodHandle" ∧ (tm_y N).cls ≠ "java/lang/invoke/VarHandle" ∧ tm_nL N ≤ 40
def tm_lk (M N : tm_M) (i : Nat) : Prop := Cond.methodLink (tm_own M) i (tm_y N) ∈ tm_ws ∨ ∃ host, Cond.methodLinkNest (tm_own M) i (tm_y N) host ∈ tm_ws
theorem tm_cd_spec {N : tm_M} {args : Array Value} {s : State} (h : (tm_cd N).before args s = true) : ∃ m meth c, s.methodNamed? (tm_y N) = some m ∧ s.vm.method? m = some meth ∧ meth.code = some c ∧ c.maxLocals = tm_nL N ∧ parseMethodDescriptor (tm_y N).desc = some meth.sig := by
  unfold tm_cd at h
  split at h
  · obtain ⟨m, hn⟩ := Cond.code_named h
    obtain ⟨meth, c, h1, h2, -, h4, -, -, -, h8⟩ := Cond.code_spec hn h
    exact ⟨m, meth, c, hn, h1, h2, h4, h8⟩
  · obtain ⟨m, meth, c, hn, h1, h2, -, h4, -, -, -, h8⟩ := Cond.codeWith_spec h
    exact ⟨m, meth, c, hn, h1, h2, h4, h8⟩
/-- behind the instruction's own step: the contract's two ends -/
theorem tm_inv {N : tm_M} {d' u' : Nat} {av rest : List Value} {Q' : tm_O → tm_Hp → Prop} (hN : tm_ok N) (hr : (rest.map fun v => v.category).sum ≤ 8) (hD : d' + 1 ≤ d) (hu : u + u' ≤ u0) (hC : tm_C N d' u' av h Q')
    (k1 : ∀ v h', Q' (.inl v) h' → tm_T M d u0 Q (u + u') (pc + 3) L (v.toList ++ rest) h') (k2 : ∀ k h', Q' (.inr k) h' → tm_H M d u0 Q (u + u') pc L k h')
    {p : Program} {l : Launch} {e : Env} {s : State} {m : MethodId} {args : Array Value} {below : List Frame} {meth : Method} {c : Code} {H : Heap} {locs : List Loc} {ls : Array Slot} {g : tm_G} {D : va_G}
    (h1 : l.stackTraces = false) (h2 : tm_F M p s m args meth c) (h3 : tm_E g D s) (h4 : ∃ h0, tm_R g D h0 s s.heap) (h5 : tm_R g D h s H) (h6 : va_S (tm_A g s.heap.size) s.heap H locs) (h7 : lv_has ls (tm_nL M) (tm_l g.1 L))
    {T : State} {vm₁ : Vm} {mk : MethodId} {ig : Instr} (hT : T.heap = H) (X : Stand p l e (tm_rm d u0) s m args below meth c (T.setVm vm₁) locs u (6 * u)) (hdg : decode c.code pc = .ok (ig, 3)) (hmk : s.methodNamed? (tm_y N) = some mk) :
    ∃ t, Steps p.tables e below (doInvoke e ((T.setVm vm₁).setTop (F0 m pc ls (rest.map (tm_v g.1)))) [] mk (av.map (tm_v g.1)).toArray).1 t ∧ tm_Z below g D Q u0 s t := by
  obtain ⟨n1, n2, n3, n4, n5⟩ := hN
  have hW₁ : s.WarmedH vm₁ := X.warmed
  obtain ⟨U, hU⟩ : ∃ U, U = T.setVm vm₁ := ⟨_, rfl⟩
  have hUh : U.heap = H := by rw [hU]; exact hT
  have hUv : U.vm = vm₁ := by rw [hU]; rfl
  rw [← hU] at X ⊢
  have hWU : s.WarmedH U.vm := by rw [hUv]; exact hW₁
  have hcat : ((rest.map (tm_v g.1)).map fun v => v.category).sum = (rest.map fun v => v.category).sum := by
    rw [List.map_map]
    congr 1
    apply List.map_congr_left
    intro v _
    exact tm_v_cat g.1 v
  have hwords : ∀ w ∈ tm_ws, ∀ a', w.before a' U = true := fun w hw a' => tm_ws_at hWU h2.2.2.2.2.1 w hw
  obtain ⟨mY, methY, cY, hnY, hmY, hcY, hlY, -⟩ := tm_cd_spec (hwords _ n1 (av.map (tm_v g.1)).toArray)
  have hmkU : U.methodNamed? (tm_y N) = some mk := X.named hmk
  cases hmkU.symm.trans hnY
  obtain ⟨kY, hkY, -⟩ := className_of_methodNamed hmkU
  have hinitY : kY.init = .initialized := Cond.initialized_spec (findClass_of_methodNamed hmkU) hkY (hwords _ n2 #[])
  have hat : At U m c below := X.here
  have hpre : (headSpec (tm_cd N :: tm_ws) (tm_rm d' u')).pre.before (av.map (tm_v g.1)).toArray U = true := by
    refine atoms_intro fun w hw => ?_
    rcases List.mem_cons.mp hw with rfl | hw
    · exact hwords _ n1 _
    · exact hwords _ hw _
  have hmon : (F0 m pc ls (rest.map (tm_v g.1))).monitorRoom = 0 := by
    have := lv_room (m := m) (pc := pc) (ls := ls) (rest := rest.map (tm_v g.1)) (st := []) (Nat.zero_le _)
    first | rfl | (simp [JFrame.monitorRoom])
  have hsz : ls.size = c.maxLocals := h7.1.trans h2.2.2.1.symm
  have happ : (headSpec (tm_cd N :: tm_ws) (tm_rm d' u')).appliesLoose (tm_y N) e.platform (U.calling (F0 m pc ls (rest.map (tm_v g.1))) mk (av.map (tm_v g.1)).toArray) = true :=
    Spec.appliesLoose_calling (g := F0 m pc ls (rest.map (tm_v g.1))) hat hdg hmkU hkY hinitY
      (X.room_calling (g := F0 m pc ls (rest.map (tm_v g.1))) (R' := tm_rm d' u') hsz hmY hcY (by show d' + 1 ≤ d; exact hD) (by
        rw [hmon, hcat, hlY]
        show 2 * 0 + (rest.map fun v => v.category).sum + (tm_nL N + 11) + 64 * d' ≤ 64 * d
        omega) (by show u + u' ≤ u0; exact hu) (by show 6 * u + 6 * u' ≤ 6 * u0; omega)) hpre
  have hEU : tm_E g D U := tm_E.at hWU h4 (by rw [hUh]; exact h6) h3
  have hRU : tm_R g D h U U.heap := by rw [hUh]; exact h5.moved hWU.alike
  have hP : (av.map (tm_v g.1)).toArray = (av.map (tm_v g.1)).toArray ∧ tm_E g D (U.calling (F0 m pc ls (rest.map (tm_v g.1))) mk (av.map (tm_v g.1)).toArray) ∧ tm_R g D h (U.calling (F0 m pc ls (rest.map (tm_v g.1))) mk (av.map (tm_v g.1)).toArray) (U.calling (F0 m pc ls (rest.map (tm_v g.1))) mk (av.map (tm_v g.1)).toArray).heap := by
    refine ⟨rfl, tm_E.calling hEU, ?_⟩
    exact hRU.moved (Vm.Alike.refl U.vm)
  obtain ⟨o, t, Lw, T', hq, hL, X', hT', hor⟩ := tm_back X (g := F0 m pc ls (rest.map (tm_v g.1))) (mk := mk) (a := (av.map (tm_v g.1)).toArray) (k := u') (n := 6 * u') (Pq := fun L => ∀ q ∈ L, tm_A g H.size q.base) rfl hdg (hC l g D h1) happ hP trivial
    (fun o t hq => by
      obtain ⟨o', h', Ls, b1, b2, b3, b4, b5, b6, b7⟩ := hq
      refine ⟨Ls, b5, b6, fun q hq => ?_⟩
      have := b7 q hq
      have e9 : (U.calling (F0 m pc ls (rest.map (tm_v g.1))) mk (av.map (tm_v g.1)).toArray).heap.size = H.size := by rw [← hUh]; rfl
      rwa [e9] at this)
  obtain ⟨o', h', Ls, b1, b2, b3, b4, b5, b6, b7⟩ := hq
  have e9 : (U.calling (F0 m pc ls (rest.map (tm_v g.1))) mk (av.map (tm_v g.1)).toArray).heap = H := by rw [← hUh]; rfl
  have e8 : (U.calling (F0 m pc ls (rest.map (tm_v g.1))) mk (av.map (tm_v g.1)).toArray).vm = U.vm := rfl
  obtain ⟨h0, hR0⟩ := h4
  have hAA : ∀ q, tm_A g H.size q → tm_A g s.heap.size q := by
    rintro q (hq | hq)
    · exact Or.inl hq
    · exact Or.inr (Nat.le_trans h6.1 hq)
  have hS' : va_S (tm_A g s.heap.size) s.heap T'.heap (locs ++ Lw) := by
    rw [hT']
    unfold va_F at b4
    rw [e9] at b4
    refine ⟨Nat.le_trans h6.1 b4.1, fun q hq hn => ?_, fun q hq => ?_⟩
    · rw [b4.2 q (Nat.lt_of_lt_of_le hq h6.1) (fun z => hn (hAA _ z)), h6.2.1 q hq hn]
    · rcases List.mem_append.mp hq with hq | hq
      · exact h6.2.2 q hq
      · exact hAA _ (hL q hq)
  have hR' : tm_R g D h' s T'.heap := by
    rw [hT']
    refine b3.moved ?_
    rw [e8]
    exact hWU.alike.symm
  have e7 : 6 * u + 6 * u' = 6 * (u + u') := by omega
  rw [e7] at X'
  rcases hor with ⟨v, rfl, hst⟩ | ⟨x, rfl, hst⟩
  · cases o' with
    | inr k =>
      obtain ⟨q, ce, hx, -⟩ := b2
      cases hx
    | inl w =>
      have hv : v = w.map (tm_v g.1) := Outcome.returned.inj b2
      have w1 := k1 w h' b1 p l e s m args below meth c T'.heap (locs ++ Lw) ls g D h1 h2 h3 ⟨h0, hR0⟩ hR' hS' h7 (Nat.le_trans hu (Nat.le_refl _))
      obtain ⟨t2, a1, a2⟩ := w1 T' rfl X'
      refine ⟨t2, hst.trans ?_, a2⟩
      have e6 : v.toList ++ rest.map (tm_v g.1) = (w.toList ++ rest).map (tm_v g.1) := by
        rw [hv]
        cases w <;> rfl
      rw [← e6] at a1
      exact a1
  · cases o' with
    | inl w => cases b2
    | inr k =>
      obtain ⟨q, ce, hx, c1, c2, c3⟩ := b2
      cases hx
      have hcl : s.vm.findClass (tm_ex k) = some ce.cls := by
        rw [e8, hWU.alike.findClass] at c3
        exact c3
      obtain ⟨t2, a1, a2⟩ := k2 k h' b1 p l e s m args below meth c T'.heap (locs ++ Lw) ls g D x ce (rest.map (tm_v g.1)) h1 h2 h3 ⟨h0, hR0⟩ hR' hS' h7 hu (by rw [hT']; exact c1) c2 hcl T' rfl X'
      exact ⟨t2, hst.trans a1, a2⟩
theorem tm_dk {v9 : Option Value} {h9 : tm_Hp} {rest : List Value} (k1 : tm_T M d u0 Q u pc L (v9.toList ++ rest) h9) : ∀ v h1, ((Sum.inl v : tm_O) = .inl v9 ∧ h1 = h9) → tm_T M d u0 Q u pc L (v.toList ++ rest) h1 := by
  rintro v h1 ⟨e, rfl⟩
  cases e
  exact k1
/-- a static call -/
theorem tm_callS {N : tm_M} {i d' u' : Nat} {av rest : List Value} {Q' : tm_O → tm_Hp → Prop} (hd : decode (tm_cc M) pc = .ok (.invokestatic i, 3)) (hl : tm_lk M N i) (hN : tm_ok N) (hs : Cond.static (tm_y N) ∈ tm_ws) (hn : (parseMethodDescriptor (tm_y N).desc).map (fun d => d.parameters.length) = some av.length)
    (hr : (rest.map fun v => v.category).sum ≤ 8) (hD : d' + 1 ≤ d) (hu : u + u' ≤ u0) (hC : tm_C N d' u' av h Q')
    (k1 : ∀ v h', Q' (.inl v) h' → tm_T M d u0 Q (u + u') (pc + 3) L (v.toList ++ rest) h') (k2 : ∀ k h', Q' (.inr k) h' → tm_H M d u0 Q (u + u') pc L k h') : tm_T M d u0 Q u pc L (av.reverse ++ rest) h := by
  intro p l e s m args below meth c H locs ls g D h1 h2 h3 h4 h5 h6 h7 h8 T hT X
  have hst : (F0 m pc ls ((av.reverse ++ rest).map (tm_v g.1))).stack = (av.map (tm_v g.1)).reverse ++ rest.map (tm_v g.1) := by
    show (av.reverse ++ rest).map (tm_v g.1) = _
    rw [List.map_append, List.map_reverse]
  obtain ⟨mk, methM, cM, hnamed, hmethM, -, -, hsigM⟩ := tm_cd_spec (h2.2.2.2.2.1 _ hN.1)
  have hstatic : methM.isStatic = true := Cond.static_spec hnamed hmethM (h2.2.2.2.2.1 _ hs)
  obtain ⟨kP, hkP, -⟩ := className_of_methodNamed hnamed
  have hinitP : kP.init = .initialized := Cond.initialized_spec (findClass_of_methodNamed hnamed) hkP (h2.2.2.2.2.1 _ hN.2.1)
  have hlen : (av.map (tm_v g.1)).length = methM.sig.parameters.length := by
    rw [hsigM] at hn
    rw [List.length_map]
    exact (Option.some.inj hn).symm
  have hdg : decode c.code pc = .ok (.invokestatic i, 3) := by rw [h2.2.1]; exact hd
  rcases hl with hl | ⟨host, hl⟩
  · obtain ⟨vm₁, X₁, hstep⟩ := X.invokestatic h2.1 h2.2.2.2.1 (h2.2.2.2.2.1 _ hl) hnamed hmethM hstatic hkP hinitP ⟨hN.2.2.1, hN.2.2.2.1⟩ (g := F0 m pc ls ((av.reverse ++ rest).map (tm_v g.1))) rfl (argsL := av.map (tm_v g.1)) (rest := rest.map (tm_v g.1)) hlen hst hdg
    obtain ⟨t, a1, a2⟩ := tm_inv hN hr hD hu hC k1 k2 h1 h2 h3 h4 h5 h6 h7 hT X₁ hdg hnamed
    exact ⟨t, hstep _ fun acts => by rw [doInvoke_state]; exact a1, a2⟩
  · obtain ⟨vm₁, X₁, hstep⟩ := X.invokestaticNest h2.1 h2.2.2.2.1 (h2.2.2.2.2.1 _ hl) hnamed hmethM hstatic hkP hinitP ⟨hN.2.2.1, hN.2.2.2.1⟩ (g := F0 m pc ls ((av.reverse ++ rest).map (tm_v g.1))) rfl (argsL := av.map (tm_v g.1)) (rest := rest.map (tm_v g.1)) hlen hst hdg
    obtain ⟨t, a1, a2⟩ := tm_inv hN hr hD hu hC k1 k2 h1 h2 h3 h4 h5 h6 h7 hT X₁ hdg hnamed
    exact ⟨t, hstep _ fun acts => by rw [doInvoke_state]; exact a1, a2⟩
/-- a call on an object of the world; the method is its class's own -/
theorem tm_callV {N : tm_M} {i d' u' a ci : Nat} {C : String} {Tb : u_T} {Nf : Nat} {fs av rest : List Value} {Q' : tm_O → tm_Hp → Prop} (hd : decode (tm_cc M) pc = .ok (.invokevirtual i, 3)) (hl : tm_lk M N i) (hN : tm_ok N) (hi : Cond.instanceMethod (tm_y N) ∈ tm_ws) (hse : Cond.selects C (tm_y N) (tm_y N) ∈ tm_ws)
    (hci : tm_cl[ci]? = some (C, Tb, Nf)) (hn : (parseMethodDescriptor (tm_y N).desc).map (fun d => d.parameters.length) = some av.length) (ho : h a = tm_o ci fs)
    (hr : (rest.map fun v => v.category).sum ≤ 8) (hD : d' + 1 ≤ d) (hu : u + u' ≤ u0) (hC : tm_C N d' u' (.ref a :: av) h Q')
    (k1 : ∀ v h', Q' (.inl v) h' → tm_T M d u0 Q (u + u') (pc + 3) L (v.toList ++ rest) h') (k2 : ∀ k h', Q' (.inr k) h' → tm_H M d u0 Q (u + u') pc L k h') : tm_T M d u0 Q u pc L (av.reverse ++ .ref a :: rest) h := by
  intro p l e s m args below meth c H locs ls g D h1 h2 h3 h4 h5 h6 h7 h8 T hT X
  have hst : (F0 m pc ls ((av.reverse ++ .ref a :: rest).map (tm_v g.1))).stack = (av.map (tm_v g.1)).reverse ++ .ref (g.1 a) :: rest.map (tm_v g.1) := by
    show (av.reverse ++ .ref a :: rest).map (tm_v g.1) = _
    rw [List.map_append, List.map_reverse]
    rfl
  have haK : a < tm_K := tm_R.in h5 (by rw [ho]; exact tm_o_nd (List.getElem?_eq_some_iff.mp hci).1) (fun n f => by rw [ho]; exact fun q => nomatch q)
  have he : (tm_W g h)[a]? = some (g.1 a, .inr (ci, fs.map (tm_v g.1))) := by rw [tm_W_get g h haK, ho]; rfl
  obtain ⟨cellB, hcB, hobj, hcls⟩ := va_recv h3.1 h5.1 hci he
  obtain ⟨mk, methM, hnamed, hmethM, hstM, habM⟩ := Cond.instanceMethod_spec (h2.2.2.2.2.1 _ hi)
  obtain ⟨m9, meth9, cM, hn9, hm9, -, -, hsigM⟩ := tm_cd_spec (h2.2.2.2.2.1 _ hN.1)
  cases hnamed.symm.trans hn9
  cases hmethM.symm.trans hm9
  obtain ⟨c2, r2, m2, q1, q2, q3, q4, kP, hkP, hkPi⟩ := Cond.selects_spec (h2.2.2.2.2.1 _ hse)
  cases hcls.symm.trans q1
  cases (State.methodFound?_of_named hnamed ⟨hN.2.2.1, hN.2.2.2.1⟩).symm.trans q2
  cases hnamed.symm.trans q3
  have hselP : selectMethod e.platform s.vm cellB.cls mk = .method mk := by rw [Launch.admits_selectMethod X.admits]; exact q4
  have hlen : (av.map (tm_v g.1)).length = methM.sig.parameters.length := by
    rw [hsigM] at hn
    rw [List.length_map]
    exact (Option.some.inj hn).symm
  have hdg : decode c.code pc = .ok (.invokevirtual i, 3) := by rw [h2.2.1]; exact hd
  rcases hl with hl | ⟨host, hl⟩
  · obtain ⟨vm₁, X₁, hstep⟩ := X.invokevirtual h2.1 h2.2.2.2.1 (h2.2.2.2.2.1 _ hl) hnamed hmethM hstM hkP hkPi ⟨hN.2.2.1, hN.2.2.2.1⟩ (a := g.1 a) (cell := cellB) (by rw [hT]; exact hcB)
      (fun z h => by rw [h] at hobj; cases hobj) hselP hmethM habM hkP hkPi (g := F0 m pc ls ((av.reverse ++ .ref a :: rest).map (tm_v g.1))) rfl (argsL := av.map (tm_v g.1)) (rest := rest.map (tm_v g.1)) hlen hst hdg
    obtain ⟨t, a1, a2⟩ := tm_inv hN hr hD hu hC k1 k2 h1 h2 h3 h4 h5 h6 h7 hT X₁ hdg hnamed
    exact ⟨t, hstep _ fun acts => by rw [doInvoke_state]; exact a1, a2⟩
  · obtain ⟨vm₁, X₁, hstep⟩ := X.invokevirtualNest h2.1 h2.2.2.2.1 (h2.2.2.2.2.1 _ hl) hnamed hmethM hstM hkP hkPi ⟨hN.2.2.1, hN.2.2.2.1⟩ (a := g.1 a) (cell := cellB) (by rw [hT]; exact hcB)
      (fun z h => by rw [h] at hobj; cases hobj) hselP hmethM habM hkP hkPi (g := F0 m pc ls ((av.reverse ++ .ref a :: rest).map (tm_v g.1))) rfl (argsL := av.map (tm_v g.1)) (rest := rest.map (tm_v g.1)) hlen hst hdg
    obtain ⟨t, a1, a2⟩ := tm_inv hN hr hD hu hC k1 k2 h1 h2 h3 h4 h5 h6 h7 hT X₁ hdg hnamed
    exact ⟨t, hstep _ fun acts => by rw [doInvoke_state]; exact a1, a2⟩
end TMJ
section TMK
/-- nothing that was there has changed, where no place is named -/
theorem tm_same {s U : State} {k n : Nat} (h : s.sameButNew ({ U with vm := s.vm } : State) [] k n) : s.heap.size ≤ U.heap.size ∧ ∀ q : Nat, q < s.heap.size → U.heap[q]? = s.heap[q]? := by
  obtain ⟨-, h2, -, -, -, h6⟩ := h
  refine ⟨h2, fun q hq => ?_⟩
  have h0 := Array.getElem?_eq_getElem hq
  obtain ⟨c9, e1, e2, e3, e4⟩ := h6 q _ h0
  have hs : c9.slots = (s.heap[q]).slots := Array.ext_getElem? fun i => e4 i (fun hm => nomatch hm)
  rw [hs] at e2
  have e5 : U.heap[q]? = some c9 := e1
  rw [e5, h0, e2]
/-- the frame, as if it were entered anew in the heap of now -/
theorem tm_anew {p : Program} {l : Launch} {e : Env} {R R' : Room} {s : State} {m : MethodId} {args : Array Value} {below : List Frame} {meth : Method} {c : Code} {T : State} {locs : List Loc} {cells slots : Nat} (X : Stand p l e R s m args below meth c T locs cells slots)
    (hf : R'.frames ≤ R.frames) (hl : R'.locals ≤ R.locals) (hc : cells + R'.cells ≤ R.cells) (hs : slots + R'.slots ≤ R.slots) : Stand p l e R' ((T.setVm s.vm).setFrames (.invoking m args :: below)) m args below meth c T [] 0 0 := by
  have htop : (T.setVm s.vm).topJava?.isSome := X.here.top
  have hF : ((T.setVm s.vm).setFrames (.invoking m args :: below)).frames = .invoking m args :: below := State.frames_setFrames _ (State.cur_lt_of_top htop)
  have hdrop : T.heap.toList.drop T.heap.size = [] := List.drop_eq_nil_of_le (Nat.le_of_eq Array.length_toList)
  have hU : ((T.setVm s.vm).setFrames (.invoking m args :: below)).localsInUse = s.localsInUse := by
    rw [State.localsInUse_invoking hF (meth := meth) (c := c) X.method X.code, State.localsInUse_invoking X.frames X.method X.code]
  have hr : ((T.setVm s.vm).setFrames (.invoking m args :: below)).hasRoom e.platform R' = true := by
    have h := X.room
    have q1 := X.heapSize
    have q2 := X.used
    have hlim : e.platform.stackLimits ((T.setVm s.vm).setFrames (.invoking m args :: below)).me = e.platform.stackLimits s.me := by
      rw [State.stackLimits_setFrames]; exact X.limits
    have hby : ((T.setVm s.vm).setFrames (.invoking m args :: below)).me.stackBytes = s.me.stackBytes := by
      rw [State.stackBytes_setFrames]; exact X.bytes
    simp only [State.hasRoom, Bool.and_eq_true, decide_eq_true_eq] at h ⊢
    obtain ⟨⟨⟨⟨a1, a2, a3, a4, a5, a6⟩, a7⟩, a8⟩, a9⟩ := h
    rw [X.frames, List.length_cons] at a2 a3
    rw [hF, hU, hlim, hby, List.length_cons]
    refine ⟨⟨⟨⟨by omega, by omega, by omega, by omega, by omega, a6⟩, ?_⟩, ?_⟩, X.book⟩
    · show T.heap.size + R'.cells ≤ e.platform.maxCells
      omega
    · show T.slotsUsed + R'.slots ≤ e.platform.maxSlots
      omega
  refine ⟨X.admits, X.cas, X.clock, hF, hr, X.hears, X.method, X.code, X.here, X.tail, X.warmed, ?_, ?_, ?_⟩
  · rw [State.stackLimits_setFrames]; rfl
  · rw [State.stackBytes_setFrames]; rfl
  · refine ⟨?_, Nat.le_refl _, Nat.le_refl _, ?_, ?_, fun a c9 h9 => ⟨c9, h9, rfl, rfl, fun _ _ => rfl⟩⟩
    · obtain ⟨g0, hg0⟩ := Option.isSome_iff_exists.mp htop
      obtain ⟨r, hr⟩ := State.topJava?_eq_some.mp hg0
      obtain ⟨t, ht, -⟩ := State.frames_cons hr
      show T.setVm s.vm = { ((T.setVm s.vm).setFrames (.invoking m args :: below)).setFrames (T.setVm s.vm).frames with heap := T.heap, slotsUsed := T.slotsUsed }
      rw [State.setFrames_setFrames, State.setFrames_self ht]
      rfl
    · show T.slotsUsed = T.slotsUsed + ((T.heap.toList.drop T.heap.size).map (·.slots.size)).sum
      rw [hdrop]; rfl
    · show ((T.heap.toList.drop T.heap.size).map (·.slots.size)).sum ≤ 0
      rw [hdrop]; exact Nat.le_refl _
variable {M : tm_M} {d u0 u : Nat} {Q : tm_O → tm_Hp → Prop} {pc : Nat} {L : List (Option Value)} {st : List Value} {h : tm_Hp}
set_option maxHeartbeats 1000000 in
/-- 'throw new X("text")': new; dup; ldc; invokespecial; athrow, no handler there -/
theorem tm_throw {ik is ic k : Nat} {text : String} (names : List String) (d0 : decode (tm_cc M) pc = .ok (.new ik, 3)) (d3 : decode (tm_cc M) (pc + 3) = .ok (.dup, 1)) (d4 : decode (tm_cc M) (pc + 4) = .ok (.ldc is, 2)) (d6 : decode (tm_cc M) (pc + 6) = .ok (.invokespecial ic, 3)) (d9 : decode (tm_cc M) (pc + 9) = .ok (.athrow, 1))
    (hout : (tableOf (tm_hh M)).all (fun x => !covers x (pc + 9)) = true) (hk : Cond.classLink (tm_own M) ik (tm_ex k) ∈ tm_ws) (hini : Cond.initialized (tm_ex k) ∈ tm_ws) (hs : (tm_own M, is, text) ∈ tm_strs)
    (hcls : Bundle.fit (tm_ex k) = true) (hnames : ∀ n ∈ names, Bundle.fit n = true) (hat : ∀ w ∈ Bundle.ownAtoms (tm_own M) ic (tm_ex k) names, w ∈ tm_ws ∨ ∃ q ∈ tm_sts, w = .isRef (.static q.1 q.2.1 q.2.2) ∨ w = .laysStatic q.1 q.2.1 q.2.2)
    (hd : names.length + 3 < d) (hu : u + 1 ≤ u0) (hq : Q (.inr k) h) : tm_T M d u0 Q u pc L [] h := by
  intro p l e s m args below meth c H locs ls g D h1 h2 h3 h4 h5 h6 h7 h8 T hT X
  have htr : e.platform.stackTraces = false := (show e.platform.stackTraces = l.stackTraces by rw [X.admits.platform]).trans h1
  have Y := tm_anew X (R' := { frames := d, locals := 64 * d, cells := 1, slots := 6 }) (Nat.le_refl _) (Nat.le_refl _) (by show u + 1 ≤ u0; exact hu) (by show 6 * u + 6 ≤ 6 * u0; omega)
  obtain ⟨s', hs'⟩ : ∃ z, z = (T.setVm s.vm).setFrames (.invoking m args :: below) := ⟨_, rfl⟩
  rw [← hs'] at Y
  have hvm : s'.vm = s.vm := by rw [hs']; rfl
  have hhp : s'.heap = H := by rw [hs']; exact hT
  have hW0 : s.WarmedH s'.vm := by rw [hvm]; exact State.WarmedH.refl s
  have hw : ∀ w ∈ tm_ws, w.before args s' = true := tm_ws_at hW0 h2.2.2.2.2.1
  obtain ⟨x1, x2, x3⟩ := tm_X.at hW0 h4 (by rw [hhp]; exact h6) h3.2.2
  obtain ⟨sa, hsa⟩ := x2 _ hs
  have hatoms : ∀ w ∈ Bundle.ownAtoms (tm_own M) ic (tm_ex k) names, w.before args s' = true := by
    intro w hw'
    rcases hat w hw' with q | ⟨q, hq1, e9 | e9⟩
    · exact hw w q
    · rw [e9]; exact (x1 q hq1).isRef
    · rw [e9]; exact (x1 q hq1).lays
  have hown : s'.vm.findClass (tm_own M) = some m.cls := by rw [hvm]; exact h2.2.2.2.1
  have hins : (Cond.instantiable (tm_ex k) 6).before args s' = true := hatoms _ (by simp [Bundle.ownAtoms])
  have hcc := h2.2.1
  obtain ⟨vm₁, cX, kX, hfX, hkX, -, -, X₁, st1⟩ := Y.newCold h2.1 (own := tm_own M) (C := tm_ex k) (index := ik) (n := 6) hown (hw _ hk) hins (hw _ hini)
    (g := F0 m pc ls []) rfl (by rw [hcc]; exact d0) (Nat.le_refl _) (Nat.le_refl _)
  generalize hT1 : (T.setVm vm₁).pushCell { cls := cX, slots := kX.instanceTypes.map defaultValue, vm := .none } = T1 at X₁ st1
  have hcat : (Value.ref T.heap.size).category = 1 := rfl
  have hcellA : T1.heap[T.heap.size]? = some (freshCell cX kX) := by rw [← hT1]; exact State.heap_pushCell_size _ _
  have d3' : decode c.code (pc + 3) = .ok (.dup, 1) := by rw [hcc]; exact d3
  have d4' : decode c.code (pc + 4) = .ok (.ldc is, 2) := by rw [hcc]; exact d4
  have hsz : ls.size = c.maxLocals := h7.1.trans h2.2.2.1.symm
  have ho : ∀ x ∈ c.exceptionTable.toList, covers x (pc + 6 + 3) = false := by
    intro x hx
    rw [h2.2.2.2.2.2.2.2] at hx
    have hc9 := List.all_eq_true.mp hout x hx
    exact tm_cov hc9
  obtain ⟨U, hsteps, hrun, hend, hW, hsame, ce, hce, hO⟩ := X₁.ctorThrowS h2.1 htr (own := tm_own M) (cls := tm_ex k) (names := names) (ic := ic) hown hcls hnames hatoms (fun x hx => nomatch hx) hfX hkX hcellA (by rw [hhp, hT]; exact Nat.le_refl _) (msg := .ref sa) rfl
    (g := { method := m, pc := pc + 6, locals := ls, stack := .ref sa :: .ref T.heap.size :: .ref T.heap.size :: [], locked := none }) rfl hsz rfl rfl (rest := []) rfl
    (by rw [hcc]; exact d6) (by rw [hcc]; exact d9) ho hd (by
      show 2 * 0 + _ + (13 * (names.length + 1) + 42) ≤ 64 * d
      simp only [List.map_cons, List.map_nil, List.sum_cons, List.sum_nil, hcat]
      omega) h2.2.2.2.2.2.2.1
  obtain ⟨f1, f2⟩ := tm_same hsame
  rw [hhp] at f1 f2
  have hWs : s.WarmedH U.vm := State.WarmedH.trans hW0 hW
  have hcl : s.vm.findClass (tm_ex k) = some ce.cls := by
    have h9 := hO.cls
    rw [hvm] at h9
    exact h9
  have hall : s.sameButNew ({ U with vm := s.vm } : State) locs u0 (6 * u0) := by
    subst hs'
    obtain ⟨e1, e2⟩ := hsame
    rw [State.setFrames_setFrames] at e1
    have g2 : (T.setVm s.vm).sameButNew ({ U with vm := s.vm } : State) [] (0 + 1) (0 + 6) := ⟨e1, e2⟩
    have g3 := X.same.trans g2
    rw [List.append_nil] at g3
    exact g3.mono (by omega) (by omega)
  obtain ⟨h0, hR0⟩ := h4
  have hSU : va_S (tm_A g s.heap.size) s.heap U.heap locs := by
    refine ⟨Nat.le_trans h6.1 f1, fun q hq hn => ?_, h6.2.2⟩
    rw [f2 q (Nat.lt_of_lt_of_le hq h6.1), h6.2.1 q hq hn]
  have hRU : tm_R g D h s U.heap := by
    refine tm_R.kept h3.2.1 (fun _ _ => rfl) h5 h6 hSU hR0.ltS ?_
    exact h5.1.kept (fun k q hq => f2 q.1 (h5.1 k q hq).lt)
  refine ⟨U, ?_, .threw T.heap.size, hrun, hend, .inr k, h, locs, hq, ⟨T.heap.size, ce, rfl, hce, hO.vm, hcl⟩, hRU, ⟨hSU.1, hSU.2.1⟩, hWs, hall, h6.2.2⟩
  refine st1 _ ?_
  show Steps p.tables e below (T1.setTop { method := m, pc := pc + 3, locals := ls, stack := .ref T.heap.size :: [], locked := none }) _
  jvm_step X₁.here [X₁.here.top, h2.1, d3', Value.category]
  exact X₁.ldcString h2.1 (own := tm_own M) (text := text) (index := is) (a := sa) hown hsa.1 hsa.2
    (g := { method := m, pc := pc + 4, locals := ls, stack := .ref T.heap.size :: .ref T.heap.size :: [], locked := none }) rfl d4' _ hsteps
end TMK
