section DF
theorem kw_37 : (Jvm.Cond.initialized "GraphNamer") ∈ kW := List.mem_filter.mpr ⟨List.mem_of_getElem? (i := 37) (by decide +kernel), by decide +kernel⟩
theorem kw_42 : (Jvm.Cond.initialized "GraphNamerModel") ∈ kW := List.mem_filter.mpr ⟨List.mem_of_getElem? (i := 42) (by decide +kernel), by decide +kernel⟩
theorem kw_52 : (Jvm.Cond.classLink "GraphNamerLaw" (8 : Nat) "GraphNamer") ∈ kW := List.mem_filter.mpr ⟨List.mem_of_getElem? (i := 52) (by decide +kernel), by decide +kernel⟩
theorem kw_53 : (Jvm.Cond.instantiable "GraphNamer" (6 : Nat)) ∈ kW := List.mem_filter.mpr ⟨List.mem_of_getElem? (i := 53) (by decide +kernel), by decide +kernel⟩
theorem kw_54 : (Jvm.Cond.methodLink "GraphNamerLaw" (83 : Nat) ({ cls := "GraphNamer", name := "<init>", desc := "()V" } : Jvm.MethodName)) ∈ kW := List.mem_filter.mpr ⟨List.mem_of_getElem? (i := 54) (by decide +kernel), by decide +kernel⟩
theorem kw_55 : (Jvm.Cond.instanceMethod ({ cls := "GraphNamer", name := "<init>", desc := "()V" } : Jvm.MethodName)) ∈ kW := List.mem_filter.mpr ⟨List.mem_of_getElem? (i := 55) (by decide +kernel), by decide +kernel⟩
theorem kw_578 : (Jvm.Cond.classLink "GraphNamerLaw" (84 : Nat) "GraphNamerModel") ∈ kW := List.mem_filter.mpr ⟨List.mem_of_getElem? (i := 578) (by decide +kernel), by decide +kernel⟩
theorem kw_579 : (Jvm.Cond.instantiable "GraphNamerModel" (13 : Nat)) ∈ kW := List.mem_filter.mpr ⟨List.mem_of_getElem? (i := 579) (by decide +kernel), by decide +kernel⟩
theorem kw_580 : (Jvm.Cond.methodLink "GraphNamerLaw" (86 : Nat) ({ cls := "GraphNamerModel", name := "<init>", desc := "()V" } : Jvm.MethodName)) ∈ kW := List.mem_filter.mpr ⟨List.mem_of_getElem? (i := 580) (by decide +kernel), by decide +kernel⟩
theorem kw_581 : (Jvm.Cond.instanceMethod ({ cls := "GraphNamerModel", name := "<init>", desc := "()V" } : Jvm.MethodName)) ∈ kW := List.mem_filter.mpr ⟨List.mem_of_getElem? (i := 581) (by decide +kernel), by decide +kernel⟩
theorem kw_804 : (Jvm.Cond.arrayClass Jvm.ClassFile.FieldType.long) ∈ kW := List.mem_filter.mpr ⟨List.mem_of_getElem? (i := 804) (by decide +kernel), by decide +kernel⟩
def R_law : String := "GraphNamerLaw"
def lw_P (b : Addr) (xs : List Int32) (args : Array Value) (s : State) : Prop := args = #[.ref b] ∧ s.IntsAt b xs ∧ xs.length ≤ 2560 ∧ (Jvm.Cond.and given_1 narrow_1).before args s = true
def lw_Q (_ : Array Value) (s : State) (o : Outcome) (t : State) : Prop := o = .returned (some (.int 1)) ∧ Framed s o t [] 632186 7199547
def lw_Z (below : List Frame) (a : Array Value) (s : State) : State → Prop := fun t => ∃ o, t.status = .running ∧ Ended t below o ∧ lw_Q a s o t
/-- the law's own end, with 1 on the stack, nothing written that was there before, its room as the claim has it -/
theorem lw_ret {p : Program} {l : Launch} {e : Env} {s : State} {m : MethodId} {below : List Frame} {meth : Method} {c : Code} {b : Nat} (hx : p.tables.exec = Jvm.exec) (hb : c.code = code) (hr : meth.sig.returnType = ret) (hlocks : meth.locks = false) {pc : Nat} {H : Heap} {ls : Array Slot} (hdg : decode code pc = .ok (.ireturn, 1)) : W p l e room_1 s m #[Value.ref b] below meth c H [] 632186 7199547 (lw_Z below #[Value.ref b] s) (F0 m pc ls [.int 1]) := by
  intro T hT X
  obtain ⟨fs, hret, hrun, hended, hW, hframe⟩ := X.leave (v := some (.int 1)) (hlocks := hlocks) (fun h => by rw [hr] at h; cases h)
  have hmeth' : T.vm.method? m = some meth := X.method'
  refine ⟨T.setFrames fs, ?_, .returned (some (.int 1)), hrun, hended, rfl, ⟨_, rfl⟩, hW, hframe⟩
  jvm_step X.here [X.here.top, hx, hb, hdg, hmeth', hr, ret, narrow_b1]
  (try refine ⟨rfl, ?_⟩); (try refine ⟨rfl, ?_⟩)
  first | (intro acts; rw [hret _ acts rfl rfl rfl]) | rw [hret _ _ rfl rfl rfl]
  exact Steps.refl _
/-- what holds at the law's entry: the machine, the code, the tables' words (any of lw_tbl by 'hts w (by decide +kernel)'), the script of L ints xs at the cell b, what the Statement gives of the start (any of its parts by flat_of_before) -/
def lw_At (p : Program) (s : State) (m : MethodId) (meth : Method) (c : Code) (b L : Nat) (xs : Nat → Int32) : Prop :=
  p.tables.exec = Jvm.exec ∧ c.code = code ∧ meth.sig.returnType = ret ∧ c.maxLocals = 7 ∧ s.vm.findClass R_law = some m.cls ∧ (∀ w ∈ lw_tbl, w.before #[Value.ref b] s = true) ∧ va_X b L xs s s.heap ∧ b < s.heap.size ∧ meth.locks = false ∧ (Jvm.Cond.and given_1 narrow_1).before #[Value.ref b] s = true
theorem st_end {p : Program} {l : Launch} {e : Env} {s : State} {m : MethodId} {below : List Frame} {meth : Method} {c : Code} {b L : Nat} {xs : Nat → Int32} (hl9 : l.stackTraces = false) (hL : L ≤ 2560) (C0 : lw_At p s m meth c b L xs) (htab : c.exceptionTable.toList = []) {H : Heap} {locs : List Loc} {ls : Array Slot} {g : tm_G} {D : va_G} (hg39 : g.1 39 = b) (hP : va_P D tm_cl (tm_W g (hI L xs)) H) (hD : tm_D g) (hge : ∀ k, k < 39 → s.heap.size ≤ g.1 k) (hK : va_K D tm_cl (tm_ty g) s) (hXX : tm_X s)
    (hS : va_S (fun q => s.heap.size ≤ q) s.heap H locs) (hl : lv_has ls 7 (tm_l g.1 [some (.ref 39), some (.ref 0), some (.ref 27), some (.ref 38), some (.int (nI 0)), none, none])) : W p l e room_1 s m #[Value.ref b] below meth c H locs 39 427 (lw_Z below #[Value.ref b] s) (F0 m 23 ls []) := by
  obtain ⟨hx, hb, hr, hml, hown, hts, hX, hbl, hlocks, hgv⟩ := C0
  refine va_forget (fun q hq => hS.2.2 q hq) ?_
  intro T hT X
  have Y := tm_anew X (R' := tm_rm 24 2560) (by decide) (by decide) (by decide) (by decide)
  obtain ⟨s', hs'⟩ : ∃ z, z = (T.setVm s.vm).setFrames (.invoking m #[Value.ref b] :: below) := ⟨_, rfl⟩
  rw [← hs'] at Y
  have hvm : s'.vm = s.vm := by rw [hs']; rfl
  have hhp : s'.heap = H := by rw [hs']; exact hT
  have hW0 : s.WarmedH s'.vm := by rw [hvm]; exact State.WarmedH.refl s
  obtain ⟨f1, f2⟩ := tm_same (U := T) X.same
  rw [hT] at f1 f2
  have hal := hW0.alike
  obtain ⟨x1, x2, x3⟩ := hXX
  have hE : tm_E g D s' := by
    refine ⟨va_K.moved hal hK, hD, fun q hq => (x1 q hq).at hal (fun a cell ha _ => ?_), fun q hq => ?_, fun q hq => (x3 q hq).moved hal⟩
    · rw [hhp, f2 a (Array.getElem?_eq_some_iff.mp ha).1]; exact ha
    · obtain ⟨a, ha⟩ := x2 q hq
      exact ⟨a, vk_R.warm hW0 ha⟩
  have hR : tm_R g D (hI L xs) s' H := by
    refine ⟨hP, ⟨L, xs, rfl, ?_⟩, fun k hk => ?_⟩
    · have h1 : va_X b L xs s' s.heap := va_X.moved hal hX
      show va_X (g.1 39) L xs s' H
      rw [hg39]
      exact va_X.kept h1 (f2 b hbl)
    · match k, hk with
      | k + 40, _ => rfl
  have hF : tm_F M_L_law p s' m #[Value.ref b] meth c := ⟨hx, hb, hml, by rw [hvm]; exact hown, tm_ws_at hW0 (fun w hw => hts w (List.mem_filter.mp hw).1), hr, hlocks, htab⟩
  have w := l_law (u0 := 2560) (N := L) (xs := xs) (Q := fun o _ => o = .inl (some (.int 1))) hL hL (fun _ => rfl) L 0 0 S0 0 (hI L xs) (fun _ => 0) none none (by omega) (Nat.zero_le _) (Nat.le_refl _) (hI_X L xs) (hI_Y L xs) rfl rfl
    p l e s' m #[Value.ref b] below meth c H [] ls g D hl9 hF hE ⟨_, by rw [hhp]; exact hR⟩ hR (by rw [hhp]; exact va_S.rf) hl (Nat.zero_le _)
  obtain ⟨t, a1, oc, b1, b2, o, h', Ls, q1, q2, q3, q4, q5, q6, q7⟩ := w T hT Y
  subst q1
  have q2' : oc = .returned (some (.int 1)) := q2
  refine ⟨t, a1, oc, b1, b2, q2', ⟨_, q2'⟩, State.WarmedH.trans hW0 q5, ?_⟩
  have q7' : ∀ x ∈ Ls, x.base < s.heap.size → x ∈ ([] : List Loc) := by
    intro x hx hlt
    rcases q7 x hx with ⟨k, hk, e1⟩ | e1
    · have := hge k hk
      exact absurd hlt (by rw [e1]; exact Nat.not_lt.mpr this)
    · rw [hhp] at e1
      exact absurd hlt (Nat.not_lt.mpr (Nat.le_trans f1 e1))
  subst hs'
  obtain ⟨e1, e2⟩ := q6
  rw [State.setFrames_setFrames] at e1
  have g2 : (T.setVm s.vm).sameButNew ({ t with vm := s.vm } : State) Ls 2560 (6 * 2560) := ⟨e1, e2⟩
  have g3 := X.same.trans g2
  exact g3.weaken (fun x hx hlt => q7' x (by simpa using hx) hlt) (by decide) (by decide)
set_option maxHeartbeats 4000000 in
set_option maxRecDepth 100000 in
theorem whole_start {p : Program} {e : Env} {s : State} {m : MethodId} {below : List Frame} {meth : Method} {c : Code} (l : Launch) (hl9 : l.stackTraces = false) {b L : Nat} {xs : Nat → Int32} (hL : L ≤ 2560) (C0 : lw_At p s m meth c b L xs) (htab : c.exceptionTable.toList = []) : W p l e room_1 s m #[Value.ref b] below meth c s.heap [] 0 0 (lw_Z below #[Value.ref b] s) (entryFrame m ([Value.ref b] : List Value).toArray 7) := by
  have C9 := C0
  obtain ⟨hx, hb, hr, hml, hown, hts, hX, hbl, hlocks, hgv⟩ := C0
  obtain ⟨D, c1, c2, c3, c4, hK0⟩ := st_K hts
  have hXX := st_X hts hgv
  have hAO : va_AO tm_GC s := va_AO.of (hts _ aw_q)
  obtain ⟨g, hg⟩ : ∃ g : tm_G, g = (fun _ => 0, c1, c2, c3, c4) := ⟨_, rfl⟩
  have hK : va_K D tm_cl (tm_ty g) s := by rw [hg]; exact hK0 _
  obtain ⟨A, hAe⟩ : ∃ A : Nat → Prop, A = fun q => s.heap.size ≤ q := ⟨_, rfl⟩
  have hA : ∀ q : Nat, s.heap.size ≤ q → A q := fun q h => by rw [hAe]; exact h
  have hS : va_S A s.heap s.heap [] := va_S.rf
  have hP : va_P D tm_cl [] s.heap := fun k q h => nomatch h
  have hD : va_D A [] := ⟨(fun i j p q h => nomatch h), (fun k q h => nomatch h)⟩
  have hl := lv_entry ([.ref b]) (n := 7) (Nat.le_of_ble_eq_true rfl)
  rw [lg_entry_eq]
  generalize (lg_sl ([.ref b]) ++ List.replicate (7 - (lg_sl ([.ref b])).length) Slot.unset).toArray = ls at hl ⊢
  have hl : lv_has ls 7 [(0, .ref b)] := hl
  have hown : s.vm.findClass "GraphNamerLaw" = some m.cls := hown
  refine va_new (ci := 0) (fs := [.null, .null, .null, .null, .null, .null]) (C := C_N) (T := T_N) (N := 6) hx hb hts (fun w h => (List.mem_filter.mp (uin_N w h)).1) ty_N tp_N hown (hts _ (List.mem_filter.mp kw_52).1) (hts _ (List.mem_filter.mp kw_53).1) (hts _ (List.mem_filter.mp kw_37).1) hK hP hD hS hA rfl (fun j hj => by rcases (show j = 0 ∨ j = 1 ∨ j = 2 ∨ j = 3 ∨ j = 4 ∨ j = 5 by omega) with rfl | rfl | rfl | rfl | rfl | rfl <;> rfl) (Nat.le_of_ble_eq_true rfl) (Nat.le_of_ble_eq_true rfl) dd_L_law_0 (fun h0 H hP hD hS => ?_)
  have hP : va_P D tm_cl [(h0, .inr (0, [.null, .null, .null, .null, .null, .null]))] H := hP
  have hD : va_D A [(h0, .inr (0, [.null, .null, .null, .null, .null, .null]))] := hD
  refine W.widen (k := 1) (n := 6) (Nat.le_of_ble_eq_true rfl) (Nat.le_of_ble_eq_true rfl) ?_
  refine lv_dup hx hb dd_L_law_3 rfl ?_
  have hPc := hP.sub (ws' := [(h0, .inr (0, [.null, .null, .null, .null, .null, .null]))]) [0] rfl
  have hDc := hD.sub (ws' := [(h0, .inr (0, [.null, .null, .null, .null, .null, .null]))]) [0] (by decide) rfl
  have hFc := va_free (wc := [(h0, .inr (0, [.null, .null, .null, .null, .null, .null]))]) hD hS hA [0] rfl
  refine va_callv (va_runI (As := []) (rest := [.ref h0]) ⟨hx, hb, hml, hown, hts⟩ (k_N_init l g D h0 H.size) (cwI 0 hts (kW_good (fun w h => (List.mem_filter.mp h).1) kc_N) rfl rfl rfl (hts _ (List.mem_filter.mp kw_37).1) (hts _ (List.mem_filter.mp kw_54).1) (hts _ (List.mem_filter.mp kw_55).1) rfl (by decide +kernel) ⟨(Nat.le_of_ble_eq_true rfl), (Nat.le_of_ble_eq_true rfl)⟩) ⟨fun a U g9 mk q => by obtain ⟨q0, q1, qP, qK, qD, qA⟩ := q; exact ⟨q0, q1, qP, va_K.moved (u := U) (U := U.calling g9 mk a) (Vm.Alike.refl U.vm) qK, qD, va_AO.moved (u := U) (U := U.calling g9 mk a) (Vm.Alike.refl U.vm) qA⟩, fun U hU hW => ⟨rfl, by rw [hU], by rw [hU]; exact hPc, va_K.moved hW.alike hK, hDc.weaken (fun _ _ _ _ => trivial), hAO.moved hW.alike⟩⟩ rfl rfl hl.1 rfl (lv_room (Nat.le_of_ble_eq_true rfl)) dd_L_law_4 ⟨(Nat.le_of_ble_eq_true rfl), (Nat.le_of_ble_eq_true rfl)⟩) hS (fun q _ h => hFc q h) hFc (fun u4 t H1 locs ht hvm h9 hB hz1 hk1 hS => ?_)
  obtain ⟨hP1, hK1, hD1⟩ := hB
  rw [ht] at hP1
  obtain ⟨hP, hD⟩ := va_join (wr := []) (w1 := [(h0, .inr (0, [.ref (u4 0), .ref (u4 4), .ref (u4 13), .ref (u4 17), .ref (u4 21), .ref (u4 23)])), ((u4 0), .inl (g.2.2.2.2, 3, .inr (.inr (.inr (.inr (va_up (va_up (va_up (fun _ => none) 0 (some (u4 1))) 1 (some (u4 2))) 2 (some (u4 3)))))))), ((u4 1), .inr (1, [.int 0, .ref (u4 5), .ref (u4 6)])), ((u4 2), .inr (1, [.int 0, .ref (u4 7), .ref (u4 8)])), ((u4 3), .inr (1, [.int 0, .ref (u4 9), .ref (u4 10)])), ((u4 4), .inr (1, [.int 0, .ref (u4 11), .ref (u4 12)])), ((u4 5), .inl (g.2.1, 7, .inl (fun _ => 0))), ((u4 6), .inl (g.2.1, 7, .inl (fun _ => 0))), ((u4 7), .inl (g.2.1, 7, .inl (fun _ => 0))), ((u4 8), .inl (g.2.1, 7, .inl (fun _ => 0))), ((u4 9), .inl (g.2.1, 7, .inl (fun _ => 0))), ((u4 10), .inl (g.2.1, 7, .inl (fun _ => 0))), ((u4 11), .inl (g.2.1, 7, .inl (fun _ => 0))), ((u4 12), .inl (g.2.1, 7, .inl (fun _ => 0))), ((u4 13), .inr (2, [.int 0, .ref (u4 14), .ref (u4 15), .ref (u4 16)])), ((u4 14), .inl (g.2.1, 7, .inl (fun _ => 0))), ((u4 15), .inl (g.2.1, 7, .inl (fun _ => 0))), ((u4 16), .inl (g.2.1, 7, .inl (fun _ => 0))), ((u4 17), .inr (2, [.int 0, .ref (u4 18), .ref (u4 19), .ref (u4 20)])), ((u4 18), .inl (g.2.1, 7, .inl (fun _ => 0))), ((u4 19), .inl (g.2.1, 7, .inl (fun _ => 0))), ((u4 20), .inl (g.2.1, 7, .inl (fun _ => 0))), ((u4 21), .inr (3, [.ref (u4 22)])), ((u4 22), .inl (g.2.1, 7, .inl (fun _ => 0))), ((u4 23), .inr (4, [.ref (u4 24), .ref (u4 25)])), ((u4 24), .inl (g.2.1, 7, .inl (fun _ => 0))), ((u4 25), .inl (g.2.1, 7, .inl (fun _ => 0)))]) hP hD [0] [] rfl rfl (by decide) (by decide) hk1 hFc hP1 hD1
  generalize H1 = H at hP hS ⊢
  have hP : va_P D tm_cl [(h0, .inr (0, [.ref (u4 0), .ref (u4 4), .ref (u4 13), .ref (u4 17), .ref (u4 21), .ref (u4 23)])), ((u4 0), .inl (g.2.2.2.2, 3, .inr (.inr (.inr (.inr (va_up (va_up (va_up (fun _ => none) 0 (some (u4 1))) 1 (some (u4 2))) 2 (some (u4 3)))))))), ((u4 1), .inr (1, [.int 0, .ref (u4 5), .ref (u4 6)])), ((u4 2), .inr (1, [.int 0, .ref (u4 7), .ref (u4 8)])), ((u4 3), .inr (1, [.int 0, .ref (u4 9), .ref (u4 10)])), ((u4 4), .inr (1, [.int 0, .ref (u4 11), .ref (u4 12)])), ((u4 5), .inl (g.2.1, 7, .inl (fun _ => 0))), ((u4 6), .inl (g.2.1, 7, .inl (fun _ => 0))), ((u4 7), .inl (g.2.1, 7, .inl (fun _ => 0))), ((u4 8), .inl (g.2.1, 7, .inl (fun _ => 0))), ((u4 9), .inl (g.2.1, 7, .inl (fun _ => 0))), ((u4 10), .inl (g.2.1, 7, .inl (fun _ => 0))), ((u4 11), .inl (g.2.1, 7, .inl (fun _ => 0))), ((u4 12), .inl (g.2.1, 7, .inl (fun _ => 0))), ((u4 13), .inr (2, [.int 0, .ref (u4 14), .ref (u4 15), .ref (u4 16)])), ((u4 14), .inl (g.2.1, 7, .inl (fun _ => 0))), ((u4 15), .inl (g.2.1, 7, .inl (fun _ => 0))), ((u4 16), .inl (g.2.1, 7, .inl (fun _ => 0))), ((u4 17), .inr (2, [.int 0, .ref (u4 18), .ref (u4 19), .ref (u4 20)])), ((u4 18), .inl (g.2.1, 7, .inl (fun _ => 0))), ((u4 19), .inl (g.2.1, 7, .inl (fun _ => 0))), ((u4 20), .inl (g.2.1, 7, .inl (fun _ => 0))), ((u4 21), .inr (3, [.ref (u4 22)])), ((u4 22), .inl (g.2.1, 7, .inl (fun _ => 0))), ((u4 23), .inr (4, [.ref (u4 24), .ref (u4 25)])), ((u4 24), .inl (g.2.1, 7, .inl (fun _ => 0))), ((u4 25), .inl (g.2.1, 7, .inl (fun _ => 0)))] H := hP
  have hD : va_D A [(h0, .inr (0, [.ref (u4 0), .ref (u4 4), .ref (u4 13), .ref (u4 17), .ref (u4 21), .ref (u4 23)])), ((u4 0), .inl (g.2.2.2.2, 3, .inr (.inr (.inr (.inr (va_up (va_up (va_up (fun _ => none) 0 (some (u4 1))) 1 (some (u4 2))) 2 (some (u4 3)))))))), ((u4 1), .inr (1, [.int 0, .ref (u4 5), .ref (u4 6)])), ((u4 2), .inr (1, [.int 0, .ref (u4 7), .ref (u4 8)])), ((u4 3), .inr (1, [.int 0, .ref (u4 9), .ref (u4 10)])), ((u4 4), .inr (1, [.int 0, .ref (u4 11), .ref (u4 12)])), ((u4 5), .inl (g.2.1, 7, .inl (fun _ => 0))), ((u4 6), .inl (g.2.1, 7, .inl (fun _ => 0))), ((u4 7), .inl (g.2.1, 7, .inl (fun _ => 0))), ((u4 8), .inl (g.2.1, 7, .inl (fun _ => 0))), ((u4 9), .inl (g.2.1, 7, .inl (fun _ => 0))), ((u4 10), .inl (g.2.1, 7, .inl (fun _ => 0))), ((u4 11), .inl (g.2.1, 7, .inl (fun _ => 0))), ((u4 12), .inl (g.2.1, 7, .inl (fun _ => 0))), ((u4 13), .inr (2, [.int 0, .ref (u4 14), .ref (u4 15), .ref (u4 16)])), ((u4 14), .inl (g.2.1, 7, .inl (fun _ => 0))), ((u4 15), .inl (g.2.1, 7, .inl (fun _ => 0))), ((u4 16), .inl (g.2.1, 7, .inl (fun _ => 0))), ((u4 17), .inr (2, [.int 0, .ref (u4 18), .ref (u4 19), .ref (u4 20)])), ((u4 18), .inl (g.2.1, 7, .inl (fun _ => 0))), ((u4 19), .inl (g.2.1, 7, .inl (fun _ => 0))), ((u4 20), .inl (g.2.1, 7, .inl (fun _ => 0))), ((u4 21), .inr (3, [.ref (u4 22)])), ((u4 22), .inl (g.2.1, 7, .inl (fun _ => 0))), ((u4 23), .inr (4, [.ref (u4 24), .ref (u4 25)])), ((u4 24), .inl (g.2.1, 7, .inl (fun _ => 0))), ((u4 25), .inl (g.2.1, 7, .inl (fun _ => 0)))] := hD
  refine W.widen (k := 27) (n := 151) (Nat.le_of_ble_eq_true rfl) (Nat.le_of_ble_eq_true rfl) ?_
  refine lv_astore_n hx hb dd_L_law_7 rfl hl (by decide) rfl (fun ls hl => ?_)
  have hl : lv_has ls 7 [(1, .ref h0), (0, .ref b)] := hl
  refine va_new (ci := 5) (fs := [.int 0, .null, .null, .null, .null, .null, .int 0, .null, .int 0, .null, .null, .null, .null]) (C := C_R) (T := T_R) (N := 13) hx hb hts (fun w h => (List.mem_filter.mp (uin_R w h)).1) ty_R tp_R hown (hts _ (List.mem_filter.mp kw_578).1) (hts _ (List.mem_filter.mp kw_579).1) (hts _ (List.mem_filter.mp kw_42).1) hK hP hD hS hA rfl (fun j hj => by rcases (show j = 0 ∨ j = 1 ∨ j = 2 ∨ j = 3 ∨ j = 4 ∨ j = 5 ∨ j = 6 ∨ j = 7 ∨ j = 8 ∨ j = 9 ∨ j = 10 ∨ j = 11 ∨ j = 12 by omega) with rfl | rfl | rfl | rfl | rfl | rfl | rfl | rfl | rfl | rfl | rfl | rfl | rfl <;> rfl) (Nat.le_of_ble_eq_true rfl) (Nat.le_of_ble_eq_true rfl) dd_L_law_8 (fun r0 H hP hD hS => ?_)
  have hP : va_P D tm_cl [(h0, .inr (0, [.ref (u4 0), .ref (u4 4), .ref (u4 13), .ref (u4 17), .ref (u4 21), .ref (u4 23)])), ((u4 0), .inl (g.2.2.2.2, 3, .inr (.inr (.inr (.inr (va_up (va_up (va_up (fun _ => none) 0 (some (u4 1))) 1 (some (u4 2))) 2 (some (u4 3)))))))), ((u4 1), .inr (1, [.int 0, .ref (u4 5), .ref (u4 6)])), ((u4 2), .inr (1, [.int 0, .ref (u4 7), .ref (u4 8)])), ((u4 3), .inr (1, [.int 0, .ref (u4 9), .ref (u4 10)])), ((u4 4), .inr (1, [.int 0, .ref (u4 11), .ref (u4 12)])), ((u4 5), .inl (g.2.1, 7, .inl (fun _ => 0))), ((u4 6), .inl (g.2.1, 7, .inl (fun _ => 0))), ((u4 7), .inl (g.2.1, 7, .inl (fun _ => 0))), ((u4 8), .inl (g.2.1, 7, .inl (fun _ => 0))), ((u4 9), .inl (g.2.1, 7, .inl (fun _ => 0))), ((u4 10), .inl (g.2.1, 7, .inl (fun _ => 0))), ((u4 11), .inl (g.2.1, 7, .inl (fun _ => 0))), ((u4 12), .inl (g.2.1, 7, .inl (fun _ => 0))), ((u4 13), .inr (2, [.int 0, .ref (u4 14), .ref (u4 15), .ref (u4 16)])), ((u4 14), .inl (g.2.1, 7, .inl (fun _ => 0))), ((u4 15), .inl (g.2.1, 7, .inl (fun _ => 0))), ((u4 16), .inl (g.2.1, 7, .inl (fun _ => 0))), ((u4 17), .inr (2, [.int 0, .ref (u4 18), .ref (u4 19), .ref (u4 20)])), ((u4 18), .inl (g.2.1, 7, .inl (fun _ => 0))), ((u4 19), .inl (g.2.1, 7, .inl (fun _ => 0))), ((u4 20), .inl (g.2.1, 7, .inl (fun _ => 0))), ((u4 21), .inr (3, [.ref (u4 22)])), ((u4 22), .inl (g.2.1, 7, .inl (fun _ => 0))), ((u4 23), .inr (4, [.ref (u4 24), .ref (u4 25)])), ((u4 24), .inl (g.2.1, 7, .inl (fun _ => 0))), ((u4 25), .inl (g.2.1, 7, .inl (fun _ => 0))), (r0, .inr (5, [.int 0, .null, .null, .null, .null, .null, .int 0, .null, .int 0, .null, .null, .null, .null]))] H := hP
  have hD : va_D A [(h0, .inr (0, [.ref (u4 0), .ref (u4 4), .ref (u4 13), .ref (u4 17), .ref (u4 21), .ref (u4 23)])), ((u4 0), .inl (g.2.2.2.2, 3, .inr (.inr (.inr (.inr (va_up (va_up (va_up (fun _ => none) 0 (some (u4 1))) 1 (some (u4 2))) 2 (some (u4 3)))))))), ((u4 1), .inr (1, [.int 0, .ref (u4 5), .ref (u4 6)])), ((u4 2), .inr (1, [.int 0, .ref (u4 7), .ref (u4 8)])), ((u4 3), .inr (1, [.int 0, .ref (u4 9), .ref (u4 10)])), ((u4 4), .inr (1, [.int 0, .ref (u4 11), .ref (u4 12)])), ((u4 5), .inl (g.2.1, 7, .inl (fun _ => 0))), ((u4 6), .inl (g.2.1, 7, .inl (fun _ => 0))), ((u4 7), .inl (g.2.1, 7, .inl (fun _ => 0))), ((u4 8), .inl (g.2.1, 7, .inl (fun _ => 0))), ((u4 9), .inl (g.2.1, 7, .inl (fun _ => 0))), ((u4 10), .inl (g.2.1, 7, .inl (fun _ => 0))), ((u4 11), .inl (g.2.1, 7, .inl (fun _ => 0))), ((u4 12), .inl (g.2.1, 7, .inl (fun _ => 0))), ((u4 13), .inr (2, [.int 0, .ref (u4 14), .ref (u4 15), .ref (u4 16)])), ((u4 14), .inl (g.2.1, 7, .inl (fun _ => 0))), ((u4 15), .inl (g.2.1, 7, .inl (fun _ => 0))), ((u4 16), .inl (g.2.1, 7, .inl (fun _ => 0))), ((u4 17), .inr (2, [.int 0, .ref (u4 18), .ref (u4 19), .ref (u4 20)])), ((u4 18), .inl (g.2.1, 7, .inl (fun _ => 0))), ((u4 19), .inl (g.2.1, 7, .inl (fun _ => 0))), ((u4 20), .inl (g.2.1, 7, .inl (fun _ => 0))), ((u4 21), .inr (3, [.ref (u4 22)])), ((u4 22), .inl (g.2.1, 7, .inl (fun _ => 0))), ((u4 23), .inr (4, [.ref (u4 24), .ref (u4 25)])), ((u4 24), .inl (g.2.1, 7, .inl (fun _ => 0))), ((u4 25), .inl (g.2.1, 7, .inl (fun _ => 0))), (r0, .inr (5, [.int 0, .null, .null, .null, .null, .null, .int 0, .null, .int 0, .null, .null, .null, .null]))] := hD
  refine W.widen (k := 28) (n := 164) (Nat.le_of_ble_eq_true rfl) (Nat.le_of_ble_eq_true rfl) ?_
  refine lv_dup hx hb dd_L_law_11 rfl ?_
  have hPc := hP.sub (ws' := [(r0, .inr (5, [.int 0, .null, .null, .null, .null, .null, .int 0, .null, .int 0, .null, .null, .null, .null]))]) [27] rfl
  have hDc := hD.sub (ws' := [(r0, .inr (5, [.int 0, .null, .null, .null, .null, .null, .int 0, .null, .int 0, .null, .null, .null, .null]))]) [27] (by decide) rfl
  have hFc := va_free (wc := [(r0, .inr (5, [.int 0, .null, .null, .null, .null, .null, .int 0, .null, .int 0, .null, .null, .null, .null]))]) hD hS hA [27] rfl
  refine va_callv (va_runI (As := []) (rest := [.ref r0]) ⟨hx, hb, hml, hown, hts⟩ (k_R_init l g D r0 H.size) (cwI 0 hts (kW_good (fun w h => (List.mem_filter.mp h).1) kc_R) rfl rfl rfl (hts _ (List.mem_filter.mp kw_42).1) (hts _ (List.mem_filter.mp kw_580).1) (hts _ (List.mem_filter.mp kw_581).1) rfl (by decide +kernel) ⟨(Nat.le_of_ble_eq_true rfl), (Nat.le_of_ble_eq_true rfl)⟩) ⟨fun a U g9 mk q => by obtain ⟨q0, q1, qP, qK, qD⟩ := q; exact ⟨q0, q1, qP, va_K.moved (u := U) (U := U.calling g9 mk a) (Vm.Alike.refl U.vm) qK, qD⟩, fun U hU hW => ⟨rfl, by rw [hU], by rw [hU]; exact hPc, va_K.moved hW.alike hK, hDc.weaken (fun _ _ _ _ => trivial)⟩⟩ rfl rfl hl.1 rfl (lv_room (Nat.le_of_ble_eq_true rfl)) dd_L_law_12 ⟨(Nat.le_of_ble_eq_true rfl), (Nat.le_of_ble_eq_true rfl)⟩) hS (fun q _ h => hFc q h) hFc (fun u12 t H1 locs ht hvm h9 hB hz1 hk1 hS => ?_)
  obtain ⟨hP1, hK1, hD1⟩ := hB
  rw [ht] at hP1
  obtain ⟨hP, hD⟩ := va_join (wr := [(h0, .inr (0, [.ref (u4 0), .ref (u4 4), .ref (u4 13), .ref (u4 17), .ref (u4 21), .ref (u4 23)])), ((u4 0), .inl (g.2.2.2.2, 3, .inr (.inr (.inr (.inr (va_up (va_up (va_up (fun _ => none) 0 (some (u4 1))) 1 (some (u4 2))) 2 (some (u4 3)))))))), ((u4 1), .inr (1, [.int 0, .ref (u4 5), .ref (u4 6)])), ((u4 2), .inr (1, [.int 0, .ref (u4 7), .ref (u4 8)])), ((u4 3), .inr (1, [.int 0, .ref (u4 9), .ref (u4 10)])), ((u4 4), .inr (1, [.int 0, .ref (u4 11), .ref (u4 12)])), ((u4 5), .inl (g.2.1, 7, .inl (fun _ => 0))), ((u4 6), .inl (g.2.1, 7, .inl (fun _ => 0))), ((u4 7), .inl (g.2.1, 7, .inl (fun _ => 0))), ((u4 8), .inl (g.2.1, 7, .inl (fun _ => 0))), ((u4 9), .inl (g.2.1, 7, .inl (fun _ => 0))), ((u4 10), .inl (g.2.1, 7, .inl (fun _ => 0))), ((u4 11), .inl (g.2.1, 7, .inl (fun _ => 0))), ((u4 12), .inl (g.2.1, 7, .inl (fun _ => 0))), ((u4 13), .inr (2, [.int 0, .ref (u4 14), .ref (u4 15), .ref (u4 16)])), ((u4 14), .inl (g.2.1, 7, .inl (fun _ => 0))), ((u4 15), .inl (g.2.1, 7, .inl (fun _ => 0))), ((u4 16), .inl (g.2.1, 7, .inl (fun _ => 0))), ((u4 17), .inr (2, [.int 0, .ref (u4 18), .ref (u4 19), .ref (u4 20)])), ((u4 18), .inl (g.2.1, 7, .inl (fun _ => 0))), ((u4 19), .inl (g.2.1, 7, .inl (fun _ => 0))), ((u4 20), .inl (g.2.1, 7, .inl (fun _ => 0))), ((u4 21), .inr (3, [.ref (u4 22)])), ((u4 22), .inl (g.2.1, 7, .inl (fun _ => 0))), ((u4 23), .inr (4, [.ref (u4 24), .ref (u4 25)])), ((u4 24), .inl (g.2.1, 7, .inl (fun _ => 0))), ((u4 25), .inl (g.2.1, 7, .inl (fun _ => 0)))]) (w1 := [(r0, .inr (5, [.int 0, .ref (u12 0), .ref (u12 1), .ref (u12 2), .ref (u12 3), .ref (u12 4), .int 0, .ref (u12 5), .int 0, .ref (u12 6), .ref (u12 7), .ref (u12 8), .ref (u12 9)])), ((u12 0), .inl (g.2.1, 3, .inl (fun _ => 0))), ((u12 1), .inl (g.2.1, 21, .inl (fun _ => 0))), ((u12 2), .inl (g.2.2.1, 147, .inl (fun _ => 0))), ((u12 3), .inl (g.2.1, 7, .inl (fun _ => 0))), ((u12 4), .inl (g.2.1, 7, .inl (fun _ => 0))), ((u12 5), .inl (g.2.1, 7, .inl (fun _ => 0))), ((u12 6), .inl (g.2.1, 7, .inl (fun _ => 0))), ((u12 7), .inl (g.2.1, 7, .inl (fun _ => 0))), ((u12 8), .inl (g.2.1, 7, .inl (fun _ => 0))), ((u12 9), .inl (g.2.2.1, 49, .inl (fun _ => 0)))]) hP hD [27] [0, 1, 2, 3, 4, 5, 6, 7, 8, 9, 10, 11, 12, 13, 14, 15, 16, 17, 18, 19, 20, 21, 22, 23, 24, 25, 26] rfl rfl (by decide) (by decide) hk1 hFc hP1 hD1
  generalize H1 = H at hP hS ⊢
  have hP : va_P D tm_cl [(h0, .inr (0, [.ref (u4 0), .ref (u4 4), .ref (u4 13), .ref (u4 17), .ref (u4 21), .ref (u4 23)])), ((u4 0), .inl (g.2.2.2.2, 3, .inr (.inr (.inr (.inr (va_up (va_up (va_up (fun _ => none) 0 (some (u4 1))) 1 (some (u4 2))) 2 (some (u4 3)))))))), ((u4 1), .inr (1, [.int 0, .ref (u4 5), .ref (u4 6)])), ((u4 2), .inr (1, [.int 0, .ref (u4 7), .ref (u4 8)])), ((u4 3), .inr (1, [.int 0, .ref (u4 9), .ref (u4 10)])), ((u4 4), .inr (1, [.int 0, .ref (u4 11), .ref (u4 12)])), ((u4 5), .inl (g.2.1, 7, .inl (fun _ => 0))), ((u4 6), .inl (g.2.1, 7, .inl (fun _ => 0))), ((u4 7), .inl (g.2.1, 7, .inl (fun _ => 0))), ((u4 8), .inl (g.2.1, 7, .inl (fun _ => 0))), ((u4 9), .inl (g.2.1, 7, .inl (fun _ => 0))), ((u4 10), .inl (g.2.1, 7, .inl (fun _ => 0))), ((u4 11), .inl (g.2.1, 7, .inl (fun _ => 0))), ((u4 12), .inl (g.2.1, 7, .inl (fun _ => 0))), ((u4 13), .inr (2, [.int 0, .ref (u4 14), .ref (u4 15), .ref (u4 16)])), ((u4 14), .inl (g.2.1, 7, .inl (fun _ => 0))), ((u4 15), .inl (g.2.1, 7, .inl (fun _ => 0))), ((u4 16), .inl (g.2.1, 7, .inl (fun _ => 0))), ((u4 17), .inr (2, [.int 0, .ref (u4 18), .ref (u4 19), .ref (u4 20)])), ((u4 18), .inl (g.2.1, 7, .inl (fun _ => 0))), ((u4 19), .inl (g.2.1, 7, .inl (fun _ => 0))), ((u4 20), .inl (g.2.1, 7, .inl (fun _ => 0))), ((u4 21), .inr (3, [.ref (u4 22)])), ((u4 22), .inl (g.2.1, 7, .inl (fun _ => 0))), ((u4 23), .inr (4, [.ref (u4 24), .ref (u4 25)])), ((u4 24), .inl (g.2.1, 7, .inl (fun _ => 0))), ((u4 25), .inl (g.2.1, 7, .inl (fun _ => 0))), (r0, .inr (5, [.int 0, .ref (u12 0), .ref (u12 1), .ref (u12 2), .ref (u12 3), .ref (u12 4), .int 0, .ref (u12 5), .int 0, .ref (u12 6), .ref (u12 7), .ref (u12 8), .ref (u12 9)])), ((u12 0), .inl (g.2.1, 3, .inl (fun _ => 0))), ((u12 1), .inl (g.2.1, 21, .inl (fun _ => 0))), ((u12 2), .inl (g.2.2.1, 147, .inl (fun _ => 0))), ((u12 3), .inl (g.2.1, 7, .inl (fun _ => 0))), ((u12 4), .inl (g.2.1, 7, .inl (fun _ => 0))), ((u12 5), .inl (g.2.1, 7, .inl (fun _ => 0))), ((u12 6), .inl (g.2.1, 7, .inl (fun _ => 0))), ((u12 7), .inl (g.2.1, 7, .inl (fun _ => 0))), ((u12 8), .inl (g.2.1, 7, .inl (fun _ => 0))), ((u12 9), .inl (g.2.2.1, 49, .inl (fun _ => 0)))] H := hP
  have hD : va_D A [(h0, .inr (0, [.ref (u4 0), .ref (u4 4), .ref (u4 13), .ref (u4 17), .ref (u4 21), .ref (u4 23)])), ((u4 0), .inl (g.2.2.2.2, 3, .inr (.inr (.inr (.inr (va_up (va_up (va_up (fun _ => none) 0 (some (u4 1))) 1 (some (u4 2))) 2 (some (u4 3)))))))), ((u4 1), .inr (1, [.int 0, .ref (u4 5), .ref (u4 6)])), ((u4 2), .inr (1, [.int 0, .ref (u4 7), .ref (u4 8)])), ((u4 3), .inr (1, [.int 0, .ref (u4 9), .ref (u4 10)])), ((u4 4), .inr (1, [.int 0, .ref (u4 11), .ref (u4 12)])), ((u4 5), .inl (g.2.1, 7, .inl (fun _ => 0))), ((u4 6), .inl (g.2.1, 7, .inl (fun _ => 0))), ((u4 7), .inl (g.2.1, 7, .inl (fun _ => 0))), ((u4 8), .inl (g.2.1, 7, .inl (fun _ => 0))), ((u4 9), .inl (g.2.1, 7, .inl (fun _ => 0))), ((u4 10), .inl (g.2.1, 7, .inl (fun _ => 0))), ((u4 11), .inl (g.2.1, 7, .inl (fun _ => 0))), ((u4 12), .inl (g.2.1, 7, .inl (fun _ => 0))), ((u4 13), .inr (2, [.int 0, .ref (u4 14), .ref (u4 15), .ref (u4 16)])), ((u4 14), .inl (g.2.1, 7, .inl (fun _ => 0))), ((u4 15), .inl (g.2.1, 7, .inl (fun _ => 0))), ((u4 16), .inl (g.2.1, 7, .inl (fun _ => 0))), ((u4 17), .inr (2, [.int 0, .ref (u4 18), .ref (u4 19), .ref (u4 20)])), ((u4 18), .inl (g.2.1, 7, .inl (fun _ => 0))), ((u4 19), .inl (g.2.1, 7, .inl (fun _ => 0))), ((u4 20), .inl (g.2.1, 7, .inl (fun _ => 0))), ((u4 21), .inr (3, [.ref (u4 22)])), ((u4 22), .inl (g.2.1, 7, .inl (fun _ => 0))), ((u4 23), .inr (4, [.ref (u4 24), .ref (u4 25)])), ((u4 24), .inl (g.2.1, 7, .inl (fun _ => 0))), ((u4 25), .inl (g.2.1, 7, .inl (fun _ => 0))), (r0, .inr (5, [.int 0, .ref (u12 0), .ref (u12 1), .ref (u12 2), .ref (u12 3), .ref (u12 4), .int 0, .ref (u12 5), .int 0, .ref (u12 6), .ref (u12 7), .ref (u12 8), .ref (u12 9)])), ((u12 0), .inl (g.2.1, 3, .inl (fun _ => 0))), ((u12 1), .inl (g.2.1, 21, .inl (fun _ => 0))), ((u12 2), .inl (g.2.2.1, 147, .inl (fun _ => 0))), ((u12 3), .inl (g.2.1, 7, .inl (fun _ => 0))), ((u12 4), .inl (g.2.1, 7, .inl (fun _ => 0))), ((u12 5), .inl (g.2.1, 7, .inl (fun _ => 0))), ((u12 6), .inl (g.2.1, 7, .inl (fun _ => 0))), ((u12 7), .inl (g.2.1, 7, .inl (fun _ => 0))), ((u12 8), .inl (g.2.1, 7, .inl (fun _ => 0))), ((u12 9), .inl (g.2.2.1, 49, .inl (fun _ => 0)))] := hD
  refine W.widen (k := 38) (n := 426) (Nat.le_of_ble_eq_true rfl) (Nat.le_of_ble_eq_true rfl) ?_
  refine lv_astore_n hx hb dd_L_law_15 rfl hl (by decide) rfl (fun ls hl => ?_)
  have hl : lv_has ls 7 [(2, .ref r0), (1, .ref h0), (0, .ref b)] := hl
  refine lv_iconst (v := 1) hx hb dd_L_law_16 (by decide) ?_
  refine va_newa (atype := .long) (ty := .long) (N' := 1) (a0 := (1, .inr (.inl (fun _ => 0)))) hx hb (hts _ (List.mem_filter.mp kw_804).1) rfl hK hP hD hS hA (fun _ => rfl) (by decide) (by decide) (by decide) (Nat.le_of_ble_eq_true rfl) (Nat.le_of_ble_eq_true rfl) dd_L_law_17 (fun qj cA H hK9 hP hD hS => ?_)
  obtain rfl : cA = g.2.2.2.1 := Option.some.inj ((hK9.2 4 _ rfl).2.symm.trans (hK.2 2 _ rfl).2)
  have hP : va_P D tm_cl [(h0, .inr (0, [.ref (u4 0), .ref (u4 4), .ref (u4 13), .ref (u4 17), .ref (u4 21), .ref (u4 23)])), ((u4 0), .inl (g.2.2.2.2, 3, .inr (.inr (.inr (.inr (va_up (va_up (va_up (fun _ => none) 0 (some (u4 1))) 1 (some (u4 2))) 2 (some (u4 3)))))))), ((u4 1), .inr (1, [.int 0, .ref (u4 5), .ref (u4 6)])), ((u4 2), .inr (1, [.int 0, .ref (u4 7), .ref (u4 8)])), ((u4 3), .inr (1, [.int 0, .ref (u4 9), .ref (u4 10)])), ((u4 4), .inr (1, [.int 0, .ref (u4 11), .ref (u4 12)])), ((u4 5), .inl (g.2.1, 7, .inl (fun _ => 0))), ((u4 6), .inl (g.2.1, 7, .inl (fun _ => 0))), ((u4 7), .inl (g.2.1, 7, .inl (fun _ => 0))), ((u4 8), .inl (g.2.1, 7, .inl (fun _ => 0))), ((u4 9), .inl (g.2.1, 7, .inl (fun _ => 0))), ((u4 10), .inl (g.2.1, 7, .inl (fun _ => 0))), ((u4 11), .inl (g.2.1, 7, .inl (fun _ => 0))), ((u4 12), .inl (g.2.1, 7, .inl (fun _ => 0))), ((u4 13), .inr (2, [.int 0, .ref (u4 14), .ref (u4 15), .ref (u4 16)])), ((u4 14), .inl (g.2.1, 7, .inl (fun _ => 0))), ((u4 15), .inl (g.2.1, 7, .inl (fun _ => 0))), ((u4 16), .inl (g.2.1, 7, .inl (fun _ => 0))), ((u4 17), .inr (2, [.int 0, .ref (u4 18), .ref (u4 19), .ref (u4 20)])), ((u4 18), .inl (g.2.1, 7, .inl (fun _ => 0))), ((u4 19), .inl (g.2.1, 7, .inl (fun _ => 0))), ((u4 20), .inl (g.2.1, 7, .inl (fun _ => 0))), ((u4 21), .inr (3, [.ref (u4 22)])), ((u4 22), .inl (g.2.1, 7, .inl (fun _ => 0))), ((u4 23), .inr (4, [.ref (u4 24), .ref (u4 25)])), ((u4 24), .inl (g.2.1, 7, .inl (fun _ => 0))), ((u4 25), .inl (g.2.1, 7, .inl (fun _ => 0))), (r0, .inr (5, [.int 0, .ref (u12 0), .ref (u12 1), .ref (u12 2), .ref (u12 3), .ref (u12 4), .int 0, .ref (u12 5), .int 0, .ref (u12 6), .ref (u12 7), .ref (u12 8), .ref (u12 9)])), ((u12 0), .inl (g.2.1, 3, .inl (fun _ => 0))), ((u12 1), .inl (g.2.1, 21, .inl (fun _ => 0))), ((u12 2), .inl (g.2.2.1, 147, .inl (fun _ => 0))), ((u12 3), .inl (g.2.1, 7, .inl (fun _ => 0))), ((u12 4), .inl (g.2.1, 7, .inl (fun _ => 0))), ((u12 5), .inl (g.2.1, 7, .inl (fun _ => 0))), ((u12 6), .inl (g.2.1, 7, .inl (fun _ => 0))), ((u12 7), .inl (g.2.1, 7, .inl (fun _ => 0))), ((u12 8), .inl (g.2.1, 7, .inl (fun _ => 0))), ((u12 9), .inl (g.2.2.1, 49, .inl (fun _ => 0))), (qj, .inl (g.2.2.2.1, 1, .inr (.inl (fun _ => 0))))] H := hP
  have hD : va_D A [(h0, .inr (0, [.ref (u4 0), .ref (u4 4), .ref (u4 13), .ref (u4 17), .ref (u4 21), .ref (u4 23)])), ((u4 0), .inl (g.2.2.2.2, 3, .inr (.inr (.inr (.inr (va_up (va_up (va_up (fun _ => none) 0 (some (u4 1))) 1 (some (u4 2))) 2 (some (u4 3)))))))), ((u4 1), .inr (1, [.int 0, .ref (u4 5), .ref (u4 6)])), ((u4 2), .inr (1, [.int 0, .ref (u4 7), .ref (u4 8)])), ((u4 3), .inr (1, [.int 0, .ref (u4 9), .ref (u4 10)])), ((u4 4), .inr (1, [.int 0, .ref (u4 11), .ref (u4 12)])), ((u4 5), .inl (g.2.1, 7, .inl (fun _ => 0))), ((u4 6), .inl (g.2.1, 7, .inl (fun _ => 0))), ((u4 7), .inl (g.2.1, 7, .inl (fun _ => 0))), ((u4 8), .inl (g.2.1, 7, .inl (fun _ => 0))), ((u4 9), .inl (g.2.1, 7, .inl (fun _ => 0))), ((u4 10), .inl (g.2.1, 7, .inl (fun _ => 0))), ((u4 11), .inl (g.2.1, 7, .inl (fun _ => 0))), ((u4 12), .inl (g.2.1, 7, .inl (fun _ => 0))), ((u4 13), .inr (2, [.int 0, .ref (u4 14), .ref (u4 15), .ref (u4 16)])), ((u4 14), .inl (g.2.1, 7, .inl (fun _ => 0))), ((u4 15), .inl (g.2.1, 7, .inl (fun _ => 0))), ((u4 16), .inl (g.2.1, 7, .inl (fun _ => 0))), ((u4 17), .inr (2, [.int 0, .ref (u4 18), .ref (u4 19), .ref (u4 20)])), ((u4 18), .inl (g.2.1, 7, .inl (fun _ => 0))), ((u4 19), .inl (g.2.1, 7, .inl (fun _ => 0))), ((u4 20), .inl (g.2.1, 7, .inl (fun _ => 0))), ((u4 21), .inr (3, [.ref (u4 22)])), ((u4 22), .inl (g.2.1, 7, .inl (fun _ => 0))), ((u4 23), .inr (4, [.ref (u4 24), .ref (u4 25)])), ((u4 24), .inl (g.2.1, 7, .inl (fun _ => 0))), ((u4 25), .inl (g.2.1, 7, .inl (fun _ => 0))), (r0, .inr (5, [.int 0, .ref (u12 0), .ref (u12 1), .ref (u12 2), .ref (u12 3), .ref (u12 4), .int 0, .ref (u12 5), .int 0, .ref (u12 6), .ref (u12 7), .ref (u12 8), .ref (u12 9)])), ((u12 0), .inl (g.2.1, 3, .inl (fun _ => 0))), ((u12 1), .inl (g.2.1, 21, .inl (fun _ => 0))), ((u12 2), .inl (g.2.2.1, 147, .inl (fun _ => 0))), ((u12 3), .inl (g.2.1, 7, .inl (fun _ => 0))), ((u12 4), .inl (g.2.1, 7, .inl (fun _ => 0))), ((u12 5), .inl (g.2.1, 7, .inl (fun _ => 0))), ((u12 6), .inl (g.2.1, 7, .inl (fun _ => 0))), ((u12 7), .inl (g.2.1, 7, .inl (fun _ => 0))), ((u12 8), .inl (g.2.1, 7, .inl (fun _ => 0))), ((u12 9), .inl (g.2.2.1, 49, .inl (fun _ => 0))), (qj, .inl (g.2.2.2.1, 1, .inr (.inl (fun _ => 0))))] := hD
  refine W.widen (k := 39) (n := 427) (Nat.le_of_ble_eq_true rfl) (Nat.le_of_ble_eq_true rfl) ?_
  refine lv_astore_n hx hb dd_L_law_19 rfl hl (by decide) rfl (fun ls hl => ?_)
  have hl : lv_has ls 7 [(3, .ref qj), (2, .ref r0), (1, .ref h0), (0, .ref b)] := hl
  refine lv_iconst (v := 0) hx hb dd_L_law_20 (by decide) ?_
  refine lv_istore hx hb dd_L_law_21 hl (by decide) rfl (fun ls hl => ?_)
  have hl : lv_has ls 7 [(4, .int 0), (3, .ref qj), (2, .ref r0), (1, .ref h0), (0, .ref b)] := hl
  obtain ⟨G, hG⟩ : ∃ G : tm_G, G = (fun k => [h0, (u4 0), (u4 1), (u4 2), (u4 3), (u4 4), (u4 5), (u4 6), (u4 7), (u4 8), (u4 9), (u4 10), (u4 11), (u4 12), (u4 13), (u4 14), (u4 15), (u4 16), (u4 17), (u4 18), (u4 19), (u4 20), (u4 21), (u4 22), (u4 23), (u4 24), (u4 25), r0, (u12 0), (u12 1), (u12 2), (u12 3), (u12 4), (u12 5), (u12 6), (u12 7), (u12 8), (u12 9), qj, b].getD k b, c1, c2, c3, c4) := ⟨_, rfl⟩
  have hK2 : va_K D tm_cl (tm_ty G) s := by rw [hG]; exact hK0 _
  have at39 : ∀ k, k < 39 → va_at D tm_cl (G.1 k, tm_c G (hI L xs k)) H ∧ A (G.1 k) := by
    subst hG
    subst hg
    intro k hk
    match k, hk with
    | 0, _ => exact ⟨hP 0 _ rfl, hD.2 0 _ rfl⟩
    | 1, _ =>
      refine ⟨?_, hD.2 1 _ rfl⟩
      have := hP 1 _ rfl
      show va_at D tm_cl (_, .inl (c4, 3, .inr (.inr (.inr (.inr (fun j => (va_up (va_up (va_up (fun _ => none) 0 (some 2)) 1 (some 3)) 2 (some 4) j).map _)))))) H
      rw [up_map, up_map, up_map]
      exact this
    | 2, _ => exact ⟨hP 2 _ rfl, hD.2 2 _ rfl⟩
    | 3, _ => exact ⟨hP 3 _ rfl, hD.2 3 _ rfl⟩
    | 4, _ => exact ⟨hP 4 _ rfl, hD.2 4 _ rfl⟩
    | 5, _ => exact ⟨hP 5 _ rfl, hD.2 5 _ rfl⟩
    | 6, _ => exact ⟨hP 6 _ rfl, hD.2 6 _ rfl⟩
    | 7, _ => exact ⟨hP 7 _ rfl, hD.2 7 _ rfl⟩
    | 8, _ => exact ⟨hP 8 _ rfl, hD.2 8 _ rfl⟩
    | 9, _ => exact ⟨hP 9 _ rfl, hD.2 9 _ rfl⟩
    | 10, _ => exact ⟨hP 10 _ rfl, hD.2 10 _ rfl⟩
    | 11, _ => exact ⟨hP 11 _ rfl, hD.2 11 _ rfl⟩
    | 12, _ => exact ⟨hP 12 _ rfl, hD.2 12 _ rfl⟩
    | 13, _ => exact ⟨hP 13 _ rfl, hD.2 13 _ rfl⟩
    | 14, _ => exact ⟨hP 14 _ rfl, hD.2 14 _ rfl⟩
    | 15, _ => exact ⟨hP 15 _ rfl, hD.2 15 _ rfl⟩
    | 16, _ => exact ⟨hP 16 _ rfl, hD.2 16 _ rfl⟩
    | 17, _ => exact ⟨hP 17 _ rfl, hD.2 17 _ rfl⟩
    | 18, _ => exact ⟨hP 18 _ rfl, hD.2 18 _ rfl⟩
    | 19, _ => exact ⟨hP 19 _ rfl, hD.2 19 _ rfl⟩
    | 20, _ => exact ⟨hP 20 _ rfl, hD.2 20 _ rfl⟩
    | 21, _ => exact ⟨hP 21 _ rfl, hD.2 21 _ rfl⟩
    | 22, _ => exact ⟨hP 22 _ rfl, hD.2 22 _ rfl⟩
    | 23, _ => exact ⟨hP 23 _ rfl, hD.2 23 _ rfl⟩
    | 24, _ => exact ⟨hP 24 _ rfl, hD.2 24 _ rfl⟩
    | 25, _ => exact ⟨hP 25 _ rfl, hD.2 25 _ rfl⟩
    | 26, _ => exact ⟨hP 26 _ rfl, hD.2 26 _ rfl⟩
    | 27, _ => exact ⟨hP 27 _ rfl, hD.2 27 _ rfl⟩
    | 28, _ => exact ⟨hP 28 _ rfl, hD.2 28 _ rfl⟩
    | 29, _ => exact ⟨hP 29 _ rfl, hD.2 29 _ rfl⟩
    | 30, _ => exact ⟨hP 30 _ rfl, hD.2 30 _ rfl⟩
    | 31, _ => exact ⟨hP 31 _ rfl, hD.2 31 _ rfl⟩
    | 32, _ => exact ⟨hP 32 _ rfl, hD.2 32 _ rfl⟩
    | 33, _ => exact ⟨hP 33 _ rfl, hD.2 33 _ rfl⟩
    | 34, _ => exact ⟨hP 34 _ rfl, hD.2 34 _ rfl⟩
    | 35, _ => exact ⟨hP 35 _ rfl, hD.2 35 _ rfl⟩
    | 36, _ => exact ⟨hP 36 _ rfl, hD.2 36 _ rfl⟩
    | 37, _ => exact ⟨hP 37 _ rfl, hD.2 37 _ rfl⟩
    | 38, _ => exact ⟨hP 38 _ rfl, hD.2 38 _ rfl⟩
    | k + 39, h => omega
  have inj : ∀ i j, i < 39 → j < 39 → G.1 i = G.1 j → i = j := by
    have ge : ∀ k, k < 39 → ∃ e, ([(h0, .inr (0, [.ref (u4 0), .ref (u4 4), .ref (u4 13), .ref (u4 17), .ref (u4 21), .ref (u4 23)])), ((u4 0), .inl (g.2.2.2.2, 3, .inr (.inr (.inr (.inr (va_up (va_up (va_up (fun _ => none) 0 (some (u4 1))) 1 (some (u4 2))) 2 (some (u4 3)))))))), ((u4 1), .inr (1, [.int 0, .ref (u4 5), .ref (u4 6)])), ((u4 2), .inr (1, [.int 0, .ref (u4 7), .ref (u4 8)])), ((u4 3), .inr (1, [.int 0, .ref (u4 9), .ref (u4 10)])), ((u4 4), .inr (1, [.int 0, .ref (u4 11), .ref (u4 12)])), ((u4 5), .inl (g.2.1, 7, .inl (fun _ => 0))), ((u4 6), .inl (g.2.1, 7, .inl (fun _ => 0))), ((u4 7), .inl (g.2.1, 7, .inl (fun _ => 0))), ((u4 8), .inl (g.2.1, 7, .inl (fun _ => 0))), ((u4 9), .inl (g.2.1, 7, .inl (fun _ => 0))), ((u4 10), .inl (g.2.1, 7, .inl (fun _ => 0))), ((u4 11), .inl (g.2.1, 7, .inl (fun _ => 0))), ((u4 12), .inl (g.2.1, 7, .inl (fun _ => 0))), ((u4 13), .inr (2, [.int 0, .ref (u4 14), .ref (u4 15), .ref (u4 16)])), ((u4 14), .inl (g.2.1, 7, .inl (fun _ => 0))), ((u4 15), .inl (g.2.1, 7, .inl (fun _ => 0))), ((u4 16), .inl (g.2.1, 7, .inl (fun _ => 0))), ((u4 17), .inr (2, [.int 0, .ref (u4 18), .ref (u4 19), .ref (u4 20)])), ((u4 18), .inl (g.2.1, 7, .inl (fun _ => 0))), ((u4 19), .inl (g.2.1, 7, .inl (fun _ => 0))), ((u4 20), .inl (g.2.1, 7, .inl (fun _ => 0))), ((u4 21), .inr (3, [.ref (u4 22)])), ((u4 22), .inl (g.2.1, 7, .inl (fun _ => 0))), ((u4 23), .inr (4, [.ref (u4 24), .ref (u4 25)])), ((u4 24), .inl (g.2.1, 7, .inl (fun _ => 0))), ((u4 25), .inl (g.2.1, 7, .inl (fun _ => 0))), (r0, .inr (5, [.int 0, .ref (u12 0), .ref (u12 1), .ref (u12 2), .ref (u12 3), .ref (u12 4), .int 0, .ref (u12 5), .int 0, .ref (u12 6), .ref (u12 7), .ref (u12 8), .ref (u12 9)])), ((u12 0), .inl (g.2.1, 3, .inl (fun _ => 0))), ((u12 1), .inl (g.2.1, 21, .inl (fun _ => 0))), ((u12 2), .inl (g.2.2.1, 147, .inl (fun _ => 0))), ((u12 3), .inl (g.2.1, 7, .inl (fun _ => 0))), ((u12 4), .inl (g.2.1, 7, .inl (fun _ => 0))), ((u12 5), .inl (g.2.1, 7, .inl (fun _ => 0))), ((u12 6), .inl (g.2.1, 7, .inl (fun _ => 0))), ((u12 7), .inl (g.2.1, 7, .inl (fun _ => 0))), ((u12 8), .inl (g.2.1, 7, .inl (fun _ => 0))), ((u12 9), .inl (g.2.2.1, 49, .inl (fun _ => 0))), (qj, .inl (g.2.2.2.1, 1, .inr (.inl (fun _ => 0))))] : va_W)[k]? = some (G.1 k, e) := by
      subst hG
      intro k hk
      match k, hk with
      | 0, _ => exact ⟨_, rfl⟩
      | 1, _ => exact ⟨_, rfl⟩
      | 2, _ => exact ⟨_, rfl⟩
      | 3, _ => exact ⟨_, rfl⟩
      | 4, _ => exact ⟨_, rfl⟩
      | 5, _ => exact ⟨_, rfl⟩
      | 6, _ => exact ⟨_, rfl⟩
      | 7, _ => exact ⟨_, rfl⟩
      | 8, _ => exact ⟨_, rfl⟩
      | 9, _ => exact ⟨_, rfl⟩
      | 10, _ => exact ⟨_, rfl⟩
      | 11, _ => exact ⟨_, rfl⟩
      | 12, _ => exact ⟨_, rfl⟩
      | 13, _ => exact ⟨_, rfl⟩
      | 14, _ => exact ⟨_, rfl⟩
      | 15, _ => exact ⟨_, rfl⟩
      | 16, _ => exact ⟨_, rfl⟩
      | 17, _ => exact ⟨_, rfl⟩
      | 18, _ => exact ⟨_, rfl⟩
      | 19, _ => exact ⟨_, rfl⟩
      | 20, _ => exact ⟨_, rfl⟩
      | 21, _ => exact ⟨_, rfl⟩
      | 22, _ => exact ⟨_, rfl⟩
      | 23, _ => exact ⟨_, rfl⟩
      | 24, _ => exact ⟨_, rfl⟩
      | 25, _ => exact ⟨_, rfl⟩
      | 26, _ => exact ⟨_, rfl⟩
      | 27, _ => exact ⟨_, rfl⟩
      | 28, _ => exact ⟨_, rfl⟩
      | 29, _ => exact ⟨_, rfl⟩
      | 30, _ => exact ⟨_, rfl⟩
      | 31, _ => exact ⟨_, rfl⟩
      | 32, _ => exact ⟨_, rfl⟩
      | 33, _ => exact ⟨_, rfl⟩
      | 34, _ => exact ⟨_, rfl⟩
      | 35, _ => exact ⟨_, rfl⟩
      | 36, _ => exact ⟨_, rfl⟩
      | 37, _ => exact ⟨_, rfl⟩
      | 38, _ => exact ⟨_, rfl⟩
      | k + 39, h => omega
    intro i j hi hj e
    obtain ⟨e1, h1⟩ := ge i hi
    obtain ⟨e2, h2⟩ := ge j hj
    exact hD.1 i j _ _ h1 h2 e
  have hge : ∀ k, k < 39 → s.heap.size ≤ G.1 k := fun k hk => by
    have := (at39 k hk).2
    rw [hAe] at this
    exact this
  have g39 : G.1 39 = b := by rw [hG]; rfl
  refine st_end hl9 hL C9 htab (g := G) g39 (fun k q hq => ?_) (fun i j hi hj e => ?_) hge hK2 hXX (by rw [hAe] at hS; exact hS) ?_
  · obtain ⟨hk, rfl⟩ := tm_W_at hq
    exact (at39 k hk).1
  · have hK9 : tm_K = 39 := rfl
    rw [hK9] at hi hj
    rcases Nat.lt_or_ge i 39 with q1 | q1 <;> rcases Nat.lt_or_ge j 39 with q2 | q2
    · exact inj i j q1 q2 e
    · have hj9 : j = 39 := by omega
      rw [hj9, g39] at e
      have := hge i q1
      omega
    · have hi9 : i = 39 := by omega
      rw [hi9, g39] at e
      have := hge j q2
      omega
    · omega
  · subst hG
    refine ⟨hl.1, hl.2.1, fun q hq => hl.2.2 q ?_⟩
    obtain ⟨i, v, e1, e2, e3⟩ := tm_la_of _ _ 0 q hq
    rw [Nat.zero_add] at e1
    match i, e2 with
    | 0, e2 => cases e2; rw [e1]; simp [tm_v]
    | 1, e2 => cases e2; rw [e1]; simp [tm_v]
    | 2, e2 => cases e2; rw [e1]; simp [tm_v]
    | 3, e2 => cases e2; rw [e1]; simp [tm_v]
    | 4, e2 => cases e2; rw [e1]; simp [tm_v]; rfl
    | 5, e2 => cases e2
    | 6, e2 => cases e2
    | i + 7, e2 => cases e2
set_option maxHeartbeats 4000000 in
theorem lw_walk (l : Launch) (hl9 : l.stackTraces = false) (b : Addr) (xs : List Int32) : MetFree l x (headSpec (Jvm.Cond.code x code maxLocals ret :: tables_1) room_1) (lw_P b xs) (fun _ _ _ _ _ => True) lw_Q := by
  refine MetFree.of_bodyS (code := code) (maxLocals := maxLocals) (ret := ret) (by decide) ?_ ?_
  · intro args s m h hn
    obtain ⟨meth, c, h1, h2, h3, h4, h5, h6, -, -⟩ := Cond.code_spec hn (atoms_spec (ws := Jvm.Cond.code x code maxLocals ret :: tables_1) h _ List.mem_cons_self)
    exact ⟨meth, c, h1, h2, h3, h4, h5, h6⟩
  · intro p e s m args below meth c s₁ B hml0 hP _
    obtain ⟨rfl, hx, hbd, hgv⟩ := hP
    obtain ⟨scr, harrAt, hlist, hof, hsmall⟩ := hx
    obtain ⟨hcb, hkn, -, -⟩ := State.arrayAt?_spec harrAt
    have hown : s.vm.findClass R_law = some m.cls := findClass_of_methodNamed B.named
    have hts0 : ∀ c ∈ (Jvm.Cond.code x code maxLocals ret :: tables_1), c.before #[Value.ref b] s = true := atoms_spec (ws := Jvm.Cond.code x code maxLocals ret :: tables_1) B.pre
    have hts : ∀ w ∈ lw_tbl, w.before #[Value.ref b] s = true := k2_hts_sels lw_privs (fun w hw => hts0 w (List.mem_cons_of_mem _ hw)) lw_privs_ok
    have hml : c.maxLocals = 7 := B.maxLocals_eq (hts0 _ List.mem_cons_self)
    have X₀ : Stand p l e room_1 s m #[Value.ref b] below meth c s₁ [] 0 0 := Stand.of_body B
    have hh0 : s₁.heap = s.heap := by rw [B.state]; rfl
    have hsz : scr.slots.size = xs.length := by rw [← Array.length_toList, hlist, List.length_map]
    have hval : ∀ j : Nat, j < xs.length → scr.slots[j]? = some (.int (xs.getD j 0)) := fun j hj => by
      rw [← Array.getElem?_toList, hlist]
      simp [hj]
    have hbl : b < s.heap.size := (Array.getElem?_eq_some_iff.mp hcb).1
    have hX : va_X b xs.length (fun j => xs.getD j 0) s s.heap := ⟨scr, hcb, hof, hkn, hsz, hval⟩
    have K : W p l e room_1 s m #[Value.ref b] below meth c s₁.heap [] 0 0 (lw_Z below #[Value.ref b] s) (entryFrame m ([Value.ref b] : List Value).toArray 7) := by
      rw [hh0]
      exact whole_start l hl9 hbd ⟨B.exec, B.bytes, B.returns, hml, hown, hts, hX, hbl, B.notSynchronized, hgv⟩ (by
        obtain ⟨meth9, c9, h1, h2, -, -, -, -, h7, -⟩ := Cond.code_spec B.named (hts0 _ List.mem_cons_self)
        cases h1.symm.trans B.method
        cases h2.symm.trans (Stand.of_body B).code
        rw [Array.isEmpty_iff.mp h7])
    obtain ⟨t, a1, o, b1, b2, b3⟩ := K s₁ rfl X₀
    exact ⟨t, o, a1, b1, b2, b3⟩
theorem lw_pre_spec {args : Array Value} {s : State} (h : (Jvm.Cond.and given_1 narrow_1).before args s = true) (hr : rest_1_c.before args s = true) : ∃ (b : Addr) (xs : List Int32), lw_P b xs args s := by
  have hs := flat_of_before _ h
  have hq := flat_of_before _ hr
  have hc : (Cond.count 1).before args s = true := hs _ (by decide +kernel)
  have harr : (Cond.arrayOf (.arg 0) .int).before args s = true := hs _ (by decide +kernel)
  have hle : (Cond.le (.length (.arg 0)) (.int 2560)).before args s = true := hs _ (by decide +kernel)
  have hlen : (Cond.isInt (.length (.arg 0))).before args s = true := hq _ (by decide +kernel)
  have hall : (Cond.all (.arg 0) (.isInt (.elem (.arg 0) (.index 0)))).before args s = true := hq _ (by decide +kernel)
  obtain ⟨b, xs, hb, hx⟩ := State.ints_of_pre rfl harr hlen hall
  have hsm : xs.length < 2 ^ 31 := hx.choose_spec.2.2.2
  have hev : (Term.length (.arg 0)).eval args s none [] s = some (.int xs.length.toInt32) := hx.length_eval hb
  have hv := Cond.le_ints hev (show (Term.int 2560).eval args s none [] s = some (.int 2560) from rfl)
  have hd : xs.length.toInt32 ≤ 2560 := by
    simpa [Cond.before, Cond.holds, hv] using hle
  have hN : xs.length ≤ 2560 := (Int32.ofNat_le_ofNat hsm (by decide)).mp (show Int32.ofNat xs.length ≤ Int32.ofNat 2560 from hd)
  exact ⟨b, xs, Cond.one_arg hc (show args[0]? = some (.ref b) from hb), hx, hN, h⟩
theorem lw_comes (l : Launch) (hl9 : l.stackTraces = false) : Comes l x (Jvm.Cond.code x code maxLocals ret :: tables_1) room_1 (fun tb e args s => Calls_1 tb e args s ∧ rest_1 tb e args s ∧ Pre_1 tb e args s)
    (fun _ _ args s o t => lw_Q args s o t) := by
  intro p e ha hc hk s m args below hf hfit hheap happ hpre
  obtain ⟨b, xs, hP⟩ := lw_pre_spec hpre.2.2 hpre.2.1
  obtain ⟨k, o, h1, h2, h3, hQ⟩ := lw_walk l hl9 b xs p e ha hc hk s m args below hf ((Spec.applies_iff_loose hf).mp happ).1 hP trivial
  exact ⟨k, o, h1, h2, h3, hQ⟩
theorem lw_frame {s t : State} {o : Outcome} {args : Array Value} (h : Framed s o t [] 632186 7199547) :
    Framed s o t (fieldLocs frame_1_writes args s ++ arrayLocs frame_1_arrays args s ++ staticLocs frame_1_statics s) 632186 7199547 := h
theorem lw_limb (L : Cond) (hL : ∀ (args : Array Value) (s t : State), L.after args s (.returned (some (.int 1))) t = true) :
    ArmFor flags0 classFile x code maxLocals ret World_1 tables_1 room_1 Calls_1 rest_1 Pre_1
      (fun tb e a s o t => postC L tb e a s o t ∧ Framed s o t (fieldLocs frame_1_writes a s ++ arrayLocs frame_1_arrays a s ++ staticLocs frame_1_statics s) 632186 7199547) := by
  intro l hfl _ _ p e ha hc hk s m args below hf hfit hheap happ hpre
  have hl9 : l.stackTraces = false := by unfold Launch.stackTraces; rw [hfl]; decide
  obtain ⟨k, o, h1, h2, h3, rfl, hF⟩ := lw_comes l hl9 p e ha hc hk s m args below hf hfit hheap happ hpre
  exact ⟨k, _, h1, h2, h3, hL args s _, lw_frame hF⟩
end DF
theorem i_vc : Claimed_1_1 ∧ Claimed_1_2 := ⟨lw_limb limb_1_1 (fun args s t => by simp [limb_1_1, Cond.after, Cond.holds, Cond.value]), lw_limb limb_1_2 (fun args s t => Cond.after_iff.mpr (by
  first | (rw [show limb_1_2 = Cond.eq .result (.int 1) from rfl, Cond.eq_ints (x := 1) (y := 1) rfl rfl]; simp; done) | (simp [limb_1_2, Cond.value, Term.eval]; done)))⟩
