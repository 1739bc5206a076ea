section BP0
/-- the words of a throw whose class passes its text on by its own link -/
def tm_at (own : String) (ic : Nat) (X Y : String) (r : List String) (ix : Nat) (bs : ByteArray) : List Cond :=
  Bundle.throwableAtoms ++ Bundle.throwableSAtoms ++ Bundle.passSAtoms X Y ix bs ++ Bundle.chainSAtoms Y r ++
  [.methodLink own ic (Bundle.initS X), .instantiable X 6, .selects X Bundle.tFill0 Bundle.tFill0, .selects X Bundle.tFill Bundle.tFill,
   .lays X Bundle.tN "cause" "Ljava/lang/Throwable;", .lays X Bundle.tN "stackTrace" Bundle.steD, .lays X Bundle.tN "suppressedExceptions" Bundle.listD, .lays X Bundle.tN "detailMessage" "Ljava/lang/String;", .lays X Bundle.tN "backtrace" "Ljava/lang/Object;",
   .isRef (.static Bundle.tN "UNASSIGNED_STACK" Bundle.steD), .isRef (.static Bundle.tN "SUPPRESSED_SENTINEL" Bundle.listD),
   .fieldLink Bundle.tN 198 Bundle.tN "backtrace" "Ljava/lang/Object;", .lays Bundle.tN Bundle.tN "backtrace" "Ljava/lang/Object;"]
set_option maxHeartbeats 2000000 in
theorem tm_ctor {p : Program} {l : Launch} {e : Env} {R : Room} {s : State} {m₀ : MethodId} {args : Array Value} {below : List Frame} {meth : Method} {c : Code} {W : State} {locs : List Loc} {cells slots : Nat}
    (X : Stand p l e R s m₀ args below meth c W locs cells slots) (hexec : p.tables.exec = Jvm.exec) (htr : e.platform.stackTraces = false) {own C Y : String} {r : List String} {ic ix : Nat} {bs : ByteArray}
    (b0 : decode bs 0 = .ok (.aload_n 0, 1)) (b1 : decode bs 1 = .ok (.aload_n 1, 1)) (b2 : decode bs 2 = .ok (.invokespecial ix, 3)) (b5 : decode bs 5 = .ok (.return_, 1))
    (hown : s.vm.findClass own = some m₀.cls) (hC : Bundle.fit C = true) (hY : Bundle.fit Y = true) (hr : ∀ n ∈ r, Bundle.fit n = true)
    (hA : ∀ w ∈ tm_at own ic C Y r ix bs, w.before args s = true)
    (hlocs : ∀ x ∈ locs, ∀ cell, s.heap[x.base]? = some cell → cell.vm.isStatics = false)
    {a : Addr} {cX : ClassId} {kX : Class} (hfX : s.vm.findClass C = some cX) (hkX : s.vm.classes[cX]? = some kX) (hcell : W.heap[a]? = some (freshCell cX kX)) (hnew : s.heap.size ≤ a)
    {msg : Value} (hmsg : msg.isRef = true) {g : JFrame} (hg : g.method = m₀) (hsize : g.locals.size = c.maxLocals) (hlocked : g.locked = none) (hentered : g.entered = []) {rest : List Value} (hstack : g.stack = msg :: .ref a :: .ref a :: rest)
    (hd6 : decode c.code g.pc = .ok (.invokespecial ic, 3)) (hd9 : decode c.code (g.pc + 3) = .ok (.athrow, 1)) (hout : ∀ x ∈ c.exceptionTable.toList, covers x (g.pc + 3) = false)
    (hF : r.length + 4 < R.frames) (hL : 2 * g.monitorRoom + ((Value.ref a :: rest).map fun v => v.category).sum + (13 * (r.length + 2) + 42) ≤ R.locals) (hlocks : meth.locks = false) :
    ∃ U : State, Steps p.tables e below (W.setTop g) U ∧ U.status = .running ∧ Ended U below (.threw a) ∧ s.WarmedH U.vm ∧ s.sameButNew ({ U with vm := s.vm } : State) locs cells slots ∧
      ∃ ce : Cell, U.heap[a]? = some ce ∧ ce.vm = .none ∧ s.vm.findClass C = some ce.cls := by
  have own9 : e.platform.frameOwnsMonitors = true := by rw [X.admits.platform]
  have fin9 : e.platform.finalization = false := by rw [X.admits.platform]
  have mag9 : e.platform.magicAccessors = ({} : Platform).magicAccessors := by rw [X.admits.platform]
  have hB : ∀ w, w ∈ tm_at own ic C Y r ix bs → w.holds args s none s [] = true := fun w hw => hA w hw
  obtain ⟨T, Z0, L, -, D⟩ := ThrowableC.of_atoms (args := args) own9 fin9 mag9 (fun w hw => hA w (by simp [tm_at, hw]))
  obtain ⟨Z, M, LZ, LM, hnZ⟩ := Init0T.ofS_atoms (args := args) mag9 L D (fun w hw => hA w (by simp [tm_at, hw]))
  obtain ⟨P0, hl0, hm0, hs0⟩ := PassC.ofS_atoms (args := args) (s := s) mag9 (X := C) (Y := Y) (Bundle.fit_spec hC).1 (Bundle.fit_spec hY).2 b0 b1 b2 b5 (fun w hw => hA w (by simp [tm_at, hw]))
  obtain ⟨P1, Ps, hlen, hl1, hls, hm1, hup1, hups⟩ := Bundle.chainS (args := args) mag9 hnZ r Y hY hr (fun w hw => hA w (by simp [tm_at, hw]))
  have hsup0 : P0.sup = P1.m := Option.some.inj (hs0.symm.trans hm1)
  have hfC : s.vm.findClass C = some P0.m.cls := findClass_of_methodNamed hm0
  cases Option.some.inj (hfX.symm.trans hfC)
  obtain ⟨c1, k1, q1, hk, hord, -, -, h6⟩ := Cond.instantiable_spec (hB (.instantiable C 6) (by simp [tm_at]))
  cases Option.some.inj (q1.symm.trans hfC)
  cases Option.some.inj (hkX.symm.trans hk)
  have sel0 : selectMethod e.platform s.vm P0.m.cls T.fill0 = .method T.fill0 := by
    obtain ⟨_, _, _, z1, z2, z3, z4, -⟩ := Cond.selects_spec (hB (.selects C Bundle.tFill0 Bundle.tFill0) (by simp [tm_at]))
    cases Option.some.inj (z1.symm.trans hfC)
    cases Option.some.inj (z2.symm.trans (State.methodFound?_of_named D.fill0 (by decide)))
    cases Option.some.inj (z3.symm.trans D.fill0)
    rw [Launch.admits_selectMethod X.admits]; exact z4
  have sel1 : selectMethod e.platform s.vm P0.m.cls T.fill = .method T.fill := by
    obtain ⟨_, _, _, z1, z2, z3, z4, -⟩ := Cond.selects_spec (hB (.selects C Bundle.tFill Bundle.tFill) (by simp [tm_at]))
    cases Option.some.inj (z1.symm.trans hfC)
    cases Option.some.inj (z2.symm.trans (State.methodFound?_of_named D.fill (by decide)))
    cases Option.some.inj (z3.symm.trans D.fill)
    rw [Launch.admits_selectMethod X.admits]; exact z4
  obtain ⟨sc, hsc, hst⟩ := D.statics
  obtain ⟨u0, hu0⟩ := Cond.staticRefV D.unassigned L.unassignedStatic L.statics hsc hst (hB (.isRef (.static Bundle.tN "UNASSIGNED_STACK" Bundle.steD)) (by simp [tm_at]))
  obtain ⟨u1, hu1⟩ := Cond.staticRefV D.sentinel L.sentinelStatic L.statics hsc hst (hB (.isRef (.static Bundle.tN "SUPPRESSED_SENTINEL" Bundle.listD)) (by simp [tm_at]))
  obtain ⟨ci, i, fB, y1, y2, y3, y4, -, y5, y6, y7⟩ := Cond.ownField (t := .object "java/lang/Object") D.found L.cls (by decide +kernel) (hB (.fieldLink Bundle.tN 198 Bundle.tN "backtrace" "Ljava/lang/Object;") (by simp [tm_at])) (hB (.lays Bundle.tN Bundle.tN "backtrace" "Ljava/lang/Object;") (by simp [tm_at])) e.platform mag9
  obtain ⟨sd, hsd, heq, -, hkeep⟩ := X.same.2.2.2.2.2 T.aS sc hsc
  have hfree : ∀ i, (⟨T.aS, i⟩ : Loc) ∉ locs := fun i hm => by
    have := hlocs _ hm sc hsc
    rw [hst] at this; cases this
  have hkn : sd.vm ≠ .unknown := by
    rw [heq]; intro q
    rw [show sc.vm = .unknown from q] at hst
    cases hst
  have hna : T.aS ≠ a := Nat.ne_of_lt (Nat.lt_of_lt_of_le (Array.getElem?_eq_some_iff.mp hsc).1 hnew)
  obtain ⟨_, hM⟩ := D.msg
  obtain ⟨t1, g1, i1, j1⟩ := Cond.laysAt hfC hk D.cause (hB (.lays C Bundle.tN "cause" "Ljava/lang/Throwable;") (by simp [tm_at]))
  obtain ⟨t2, g2, i2, j2⟩ := Cond.laysAt hfC hk D.stack (hB (.lays C Bundle.tN "stackTrace" Bundle.steD) (by simp [tm_at]))
  obtain ⟨t3, g3, i3, j3⟩ := Cond.laysAt hfC hk D.supp (hB (.lays C Bundle.tN "suppressedExceptions" Bundle.listD) (by simp [tm_at]))
  obtain ⟨t4, -, -, -⟩ := Cond.laysAt hfC hk hM (hB (.lays C Bundle.tN "detailMessage" "Ljava/lang/String;") (by simp [tm_at]))
  obtain ⟨t5, g5, i5, j5⟩ := Cond.laysAt hfC hk y7 (hB (.lays C Bundle.tN "backtrace" "Ljava/lang/Object;") (by simp [tm_at]))
  have a1 := Cond.laysApart i5 i1 j5 j1 (by rw [y5, D.causeName]; decide)
  have a2 := Cond.laysApart i5 i2 j5 j2 (by rw [y5, D.stackName]; decide)
  have a3 := Cond.laysApart i5 i3 j5 j3 (by rw [y5, D.suppName]; decide)
  have hsk : SkipFacts T e.platform s (fun u => u) u0 ((preparedCellV T.toThrowableT (freshCell P0.m.cls kX) a u0 u1).withEntry W.cur) :=
    ⟨{ ci198 := ci, i198 := i, fBack := fB }, ⟨y1, y2, y3, y4⟩, by
      have hz := fresh_default (c := P0.m.cls) t5
      rw [y6] at hz
      simpa [preparedCellV, Cell.setSlot, Cell.withEntry, Array.getElem?_setIfInBounds, a1, a2, a3, a1.symm, a2.symm, a3.symm, defaultValue] using hz, fun _ _ => rfl⟩
  obtain ⟨tm, _, _, _, vm₁, hn1, -, -, -, -, -, -, -, hW1, st1⟩ := Steps.initColdS (tb := p.tables) (e := e) (below := below) (s := s) (U := W) X.here hexec X.warmed mag9 hown (t := Bundle.initS C) rfl rfl (Bundle.fit_spec hC).2
    (hB (.methodLink own ic (Bundle.initS C)) (by simp [tm_at])) (hA (.instanceMethod (Bundle.initS C)) (by simp [tm_at, Bundle.passSAtoms])) (bytes := bs) (maxL := 2) (hA (.code (Bundle.initS C) bs 2 none) (by simp [tm_at, Bundle.passSAtoms])) (f := g) hg (a := a) (msg := msg) (rest := .ref a :: rest) hstack hd6
  cases Option.some.inj (hn1.symm.trans hm0)
  obtain ⟨vm₂, X₂, st2⟩ := (X.noted hW1).ctorMessageOffV hexec (g := { g with stack := .ref a :: rest }) hg hsize T L Z LZ M LM (P0 :: P1 :: Ps)
    (fun P hP => by
      rcases List.mem_cons.mp hP with rfl | hP
      · exact hl0
      · rcases List.mem_cons.mp hP with rfl | hP
        · exact hl1
        · exact hls P hP) ⟨hsup0, hup1, hups⟩ (u0 := u0) (sen := u1) (self := a) hmsg (cell := freshCell P0.m.cls kX) (cellS := sd)
    hcell (fun _ => by simp) (by simp) rfl rfl sel0 sel1 hsd hna hkn (by rw [hkeep _ (hfree _)]; exact hu0) (by rw [hkeep _ (hfree _)]; exact hu1)
    (Takes.of_laid hk hord t1 (by rw [D.causeType]; rfl)) (Takes.of_laid hk hord t2 (by rw [D.stackType]; exact fits_refV_array _ u0)) (Takes.of_laid hk hord t3 (by rw [D.suppType]; exact fits_refV_object _ u1))
    (Takes.of_laid hk hord t4 (by rw [D.msgType]; exact fits_refV_object _ ⟨msg, hmsg⟩)) D.objLocals hsk htr [] hd6 (by simp only [List.length_cons, hlen]; omega) (by simp only [List.length_cons, hlen]; exact hL)
  obtain ⟨w1, w2, w3, w4, w5⟩ := X₂.athrowLeaves hexec (g := { g with stack := .ref a :: rest, pc := g.pc + 3 }) hg hlocked hentered hout (a := a) (rest := rest) rfl hd9
  have hlt : a < ((W.setVm vm₁).setVm vm₂).heap.size := (Array.getElem?_eq_some_iff.mp hcell).1
  refine ⟨_, st1 _ (fun acts => ?_), w2, w3, w4, w5.weaken (fun y hy hq => ?_) (Nat.le_refl _) (Nat.le_refl _), _, heapAt_setCell_self (s := (W.setVm vm₁).setVm vm₂) (plainBareV T.toThrowableT (freshCell P0.m.cls kX) a u0 u1 msg) hlt, rfl, hfC⟩
  · rw [doInvoke_state]
    exact st2 _ w1
  · rcases List.mem_append.mp hy with z | z
    · exact z
    · have hb : y.base = a := by
        simp only [List.mem_cons, List.not_mem_nil, or_false] at z
        rcases z with rfl | rfl | rfl | rfl | rfl <;> rfl
      rw [hb] at hq
      exact absurd hnew (Nat.not_le.mpr hq)
variable {M : tm_M} {d u0 u : Nat} {Q : tm_O → tm_Hp → Prop} {pc : Nat} {L : List (Option Value)} {st : List Value} {h : tm_Hp}
theorem tm_throw2 {ik is ic k ix : Nat} {text YY : String} {r : List String} {bs : ByteArray} (b0 : decode bs 0 = .ok (.aload_n 0, 1)) (b1 : decode bs 1 = .ok (.aload_n 1, 1)) (b2 : decode bs 2 = .ok (.invokespecial ix, 3)) (b5 : decode bs 5 = .ok (.return_, 1)) (d0 : decode (tm_cc M) pc = .ok (.new ik, 3)) (d3 : decode (tm_cc M) (pc + 3) = .ok (.dup, 1)) (d4 : decode (tm_cc M) (pc + 4) = .ok (.ldc is, 2)) (d6 : decode (tm_cc M) (pc + 6) = .ok (.invokespecial ic, 3)) (d9 : decode (tm_cc M) (pc + 9) = .ok (.athrow, 1))
    (hout : (tableOf (tm_hh M)).all (fun x => !covers x (pc + 9)) = true) (hk : Cond.classLink (tm_own M) ik (tm_ex k) ∈ tm_ws) (hini : Cond.initialized (tm_ex k) ∈ tm_ws) (hs : (tm_own M, is, text) ∈ tm_strs)
    (hcls : Bundle.fit (tm_ex k) = true) (hY : Bundle.fit YY = true) (hnames : ∀ n ∈ r, Bundle.fit n = true) (hat : ∀ w ∈ tm_at (tm_own M) ic (tm_ex k) YY r ix bs, w ∈ tm_ws ∨ ∃ q ∈ tm_sts, w = .isRef (.static q.1 q.2.1 q.2.2) ∨ w = .laysStatic q.1 q.2.1 q.2.2)
    (hd : r.length + 4 < d) (hu : u + 1 ≤ u0) (hq : Q (.inr k) h) : tm_T M d u0 Q u pc L [] h := by
  intro p l e s m args below meth c H locs ls g D h1 h2 h3 h4 h5 h6 h7 h8 T hT X
  have htr : e.platform.stackTraces = false := (show e.platform.stackTraces = l.stackTraces by rw [X.admits.platform]).trans h1
  have Y := tm_anew X (R' := { frames := d, locals := 64 * d, cells := 1, slots := 6 }) (Nat.le_refl _) (Nat.le_refl _) (by show u + 1 ≤ u0; exact hu) (by show 6 * u + 6 ≤ 6 * u0; omega)
  obtain ⟨s', hs'⟩ : ∃ z, z = (T.setVm s.vm).setFrames (.invoking m args :: below) := ⟨_, rfl⟩
  rw [← hs'] at Y
  have hvm : s'.vm = s.vm := by rw [hs']; rfl
  have hhp : s'.heap = H := by rw [hs']; exact hT
  have hW0 : s.WarmedH s'.vm := by rw [hvm]; exact State.WarmedH.refl s
  have hw : ∀ w ∈ tm_ws, w.before args s' = true := tm_ws_at hW0 h2.2.2.2.2.1
  obtain ⟨x1, x2, x3⟩ := tm_X.at hW0 h4 (by rw [hhp]; exact h6) h3.2.2
  obtain ⟨sa, hsa⟩ := x2 _ hs
  have hatoms : ∀ w ∈ tm_at (tm_own M) ic (tm_ex k) YY r ix bs, w.before args s' = true := by
    intro w hw'
    rcases hat w hw' with q | ⟨q, hq1, e9 | e9⟩
    · exact hw w q
    · rw [e9]; exact (x1 q hq1).isRef
    · rw [e9]; exact (x1 q hq1).lays
  have hown : s'.vm.findClass (tm_own M) = some m.cls := by rw [hvm]; exact h2.2.2.2.1
  have hins : (Cond.instantiable (tm_ex k) 6).before args s' = true := hatoms _ (by simp [tm_at])
  have hcc := h2.2.1
  obtain ⟨vm₁, cX, kX, hfX, hkX, -, -, X₁, st1⟩ := Y.newCold h2.1 (own := tm_own M) (C := tm_ex k) (index := ik) (n := 6) hown (hw _ hk) hins (hw _ hini)
    (g := F0 m pc ls []) rfl (by rw [hcc]; exact d0) (Nat.le_refl _) (Nat.le_refl _)
  generalize hT1 : (T.setVm vm₁).pushCell { cls := cX, slots := kX.instanceTypes.map defaultValue, vm := .none } = T1 at X₁ st1
  have hcat : (Value.ref T.heap.size).category = 1 := rfl
  have hcellA : T1.heap[T.heap.size]? = some (freshCell cX kX) := by rw [← hT1]; exact State.heap_pushCell_size _ _
  have d3' : decode c.code (pc + 3) = .ok (.dup, 1) := by rw [hcc]; exact d3
  have d4' : decode c.code (pc + 4) = .ok (.ldc is, 2) := by rw [hcc]; exact d4
  have hsz : ls.size = c.maxLocals := h7.1.trans h2.2.2.1.symm
  have ho : ∀ x ∈ c.exceptionTable.toList, covers x (pc + 6 + 3) = false := by
    intro x hx
    rw [h2.2.2.2.2.2.2.2] at hx
    have hc9 := List.all_eq_true.mp hout x hx
    exact tm_cov hc9
  obtain ⟨U, hsteps, hrun, hend, hW, hsame, ce, hce, hO1, hO2⟩ := tm_ctor X₁ h2.1 htr (own := tm_own M) (C := tm_ex k) (ic := ic) b0 b1 b2 b5 hown hcls hY hnames hatoms (fun x hx => nomatch hx) hfX hkX hcellA (by rw [hhp, hT]; exact Nat.le_refl _) (msg := .ref sa) rfl
    (g := { method := m, pc := pc + 6, locals := ls, stack := .ref sa :: .ref T.heap.size :: .ref T.heap.size :: [], locked := none }) rfl hsz rfl rfl (rest := []) rfl
    (by rw [hcc]; exact d6) (by rw [hcc]; exact d9) ho hd (by
      show 2 * 0 + _ + (13 * (r.length + 2) + 42) ≤ 64 * d
      simp only [List.map_cons, List.map_nil, List.sum_cons, List.sum_nil, hcat]
      omega) h2.2.2.2.2.2.2.1
  obtain ⟨f1, f2⟩ := tm_same hsame
  rw [hhp] at f1 f2
  have hWs : s.WarmedH U.vm := State.WarmedH.trans hW0 hW
  have hcl : s.vm.findClass (tm_ex k) = some ce.cls := by
    have h9 := hO2
    rw [hvm] at h9
    exact h9
  have hall : s.sameButNew ({ U with vm := s.vm } : State) locs u0 (6 * u0) := by
    subst hs'
    obtain ⟨e1, e2⟩ := hsame
    rw [State.setFrames_setFrames] at e1
    have g2 : (T.setVm s.vm).sameButNew ({ U with vm := s.vm } : State) [] (0 + 1) (0 + 6) := ⟨e1, e2⟩
    have g3 := X.same.trans g2
    rw [List.append_nil] at g3
    exact g3.mono (by omega) (by omega)
  obtain ⟨h0, hR0⟩ := h4
  have hSU : va_S (tm_A g s.heap.size) s.heap U.heap locs := by
    refine ⟨Nat.le_trans h6.1 f1, fun q hq hn => ?_, h6.2.2⟩
    rw [f2 q (Nat.lt_of_lt_of_le hq h6.1), h6.2.1 q hq hn]
  have hRU : tm_R g D h s U.heap := by
    refine tm_R.kept h3.2.1 (fun _ _ => rfl) h5 h6 hSU hR0.ltS ?_
    exact h5.1.kept (fun k q hq => f2 q.1 (h5.1 k q hq).lt)
  refine ⟨U, ?_, .threw T.heap.size, hrun, hend, .inr k, h, locs, hq, ⟨T.heap.size, ce, rfl, hce, hO1, hcl⟩, hRU, ⟨hSU.1, hSU.2.1⟩, hWs, hall, h6.2.2⟩
  refine st1 _ ?_
  show Steps p.tables e below (T1.setTop { method := m, pc := pc + 3, locals := ls, stack := .ref T.heap.size :: [], locked := none }) _
  jvm_step X₁.here [X₁.here.top, h2.1, d3', Value.category]
  exact X₁.ldcString h2.1 (own := tm_own M) (text := text) (index := is) (a := sa) hown hsa.1 hsa.2
    (g := { method := m, pc := pc + 4, locals := ls, stack := .ref T.heap.size :: .ref T.heap.size :: [], locked := none }) rfl d4' _ hsteps
end BP0
section BP
variable {d u0 u : Nat} {Q : tm_O → tm_Hp → Prop} {L : List (Option Value)} {h : tm_Hp}
theorem tw_cl154 : Jvm.Cond.classLink "GraphNamer" 154 "java/util/NoSuchElementException" ∈ tm_ws := List.mem_filter.mpr ⟨List.mem_of_getElem? (i := 166) (by decide +kernel), by decide +kernel⟩
theorem tw_cl159 : Jvm.Cond.classLink "GraphNamer" 159 "java/lang/IllegalArgumentException" ∈ tm_ws := List.mem_filter.mpr ⟨List.mem_of_getElem? (i := 237) (by decide +kernel), by decide +kernel⟩
theorem tw_cl56 : Jvm.Cond.classLink "GraphNamer" 56 "java/lang/IllegalStateException" ∈ tm_ws := List.mem_filter.mpr ⟨List.mem_of_getElem? (i := 253) (by decide +kernel), by decide +kernel⟩
theorem tw_in0 : Jvm.Cond.initialized (tm_ex 0) ∈ tm_ws := List.mem_filter.mpr ⟨List.mem_of_getElem? (i := 46) (by decide +kernel), by decide +kernel⟩
theorem tw_in1 : Jvm.Cond.initialized (tm_ex 1) ∈ tm_ws := List.mem_filter.mpr ⟨List.mem_of_getElem? (i := 47) (by decide +kernel), by decide +kernel⟩
theorem tw_in2 : Jvm.Cond.initialized (tm_ex 2) ∈ tm_ws := List.mem_filter.mpr ⟨List.mem_of_getElem? (i := 48) (by decide +kernel), by decide +kernel⟩
theorem tw_at0 : ∀ w ∈ tm_at "GraphNamer" 158 (tm_ex 0) "java/lang/RuntimeException" ["java/lang/Exception"] 13 prog_17_method_4_code, w ∈ tm_ws ∨ ∃ q ∈ tm_sts, w = .isRef (.static q.1 q.2.1 q.2.2) ∨ w = .laysStatic q.1 q.2.1 q.2.2 := by decide +kernel
theorem tw_at1 : ∀ w ∈ tm_at "GraphNamer" 163 (tm_ex 1) "java/lang/RuntimeException" ["java/lang/Exception"] 7 Bundle.six, w ∈ tm_ws ∨ ∃ q ∈ tm_sts, w = .isRef (.static q.1 q.2.1 q.2.2) ∨ w = .laysStatic q.1 q.2.1 q.2.2 := by decide +kernel
theorem tw_at2 : ∀ w ∈ tm_at "GraphNamer" 60 (tm_ex 2) "java/lang/RuntimeException" ["java/lang/Exception"] 7 Bundle.six, w ∈ tm_ws ∨ ∃ q ∈ tm_sts, w = .isRef (.static q.1 q.2.1 q.2.2) ∨ w = .laysStatic q.1 q.2.1 q.2.2 := by decide +kernel
theorem th_N_graphOf_9 (hd : 5 < d) (hu : u + 1 ≤ u0) (hq : Q (.inr 0) h) : tm_T M_N_graphOf d u0 Q u 9 L [] h := tm_throw2 (by decide +kernel) (by decide +kernel) (by decide +kernel) (by decide +kernel) (ik := 154) (is := 156) (ic := 158) (k := 0) (text := "no such graph") dd_N_graphOf_9 dd_N_graphOf_12 dd_N_graphOf_13 dd_N_graphOf_15 dd_N_graphOf_18 (by decide +kernel) tw_cl154 tw_in0 (by decide +kernel) (by decide +kernel) (by decide +kernel) (by decide +kernel) tw_at0 hd hu hq
theorem th_N_needVertex_12 (hd : 5 < d) (hu : u + 1 ≤ u0) (hq : Q (.inr 0) h) : tm_T M_N_needVertex d u0 Q u 12 L [] h := tm_throw2 (by decide +kernel) (by decide +kernel) (by decide +kernel) (by decide +kernel) (ik := 154) (is := 164) (ic := 158) (k := 0) (text := "no such vertex") dd_N_needVertex_12 dd_N_needVertex_15 dd_N_needVertex_16 dd_N_needVertex_18 dd_N_needVertex_21 (by decide +kernel) tw_cl154 tw_in0 (by decide +kernel) (by decide +kernel) (by decide +kernel) (by decide +kernel) tw_at0 hd hu hq
theorem th_N_needSet_9 (hd : 5 < d) (hu : u + 1 ≤ u0) (hq : Q (.inr 0) h) : tm_T M_N_needSet d u0 Q u 9 L [] h := tm_throw2 (by decide +kernel) (by decide +kernel) (by decide +kernel) (by decide +kernel) (ik := 154) (is := 166) (ic := 158) (k := 0) (text := "a vertex in the set isn't there") dd_N_needSet_9 dd_N_needSet_12 dd_N_needSet_13 dd_N_needSet_15 dd_N_needSet_18 (by decide +kernel) tw_cl154 tw_in0 (by decide +kernel) (by decide +kernel) (by decide +kernel) (by decide +kernel) tw_at0 hd hu hq
theorem th_N_needColour_9 (hd : 5 < d) (hu : u + 1 ≤ u0) (hq : Q (.inr 1) h) : tm_T M_N_needColour d u0 Q u 9 L [] h := tm_throw2 (by decide +kernel) (by decide +kernel) (by decide +kernel) (by decide +kernel) (ik := 159) (is := 168) (ic := 163) (k := 1) (text := "the colour is not 0 .. 3") dd_N_needColour_9 dd_N_needColour_12 dd_N_needColour_13 dd_N_needColour_15 dd_N_needColour_18 (by decide +kernel) tw_cl159 tw_in1 (by decide +kernel) (by decide +kernel) (by decide +kernel) (by decide +kernel) tw_at1 hd hu hq
theorem th_N_graphWithPair_19 (hd : 5 < d) (hu : u + 1 ≤ u0) (hq : Q (.inr 1) h) : tm_T M_N_graphWithPair d u0 Q u 19 L [] h := tm_throw2 (by decide +kernel) (by decide +kernel) (by decide +kernel) (by decide +kernel) (ik := 159) (is := 161) (ic := 163) (k := 1) (text := "the vertices are not different") dd_N_graphWithPair_19 dd_N_graphWithPair_22 dd_N_graphWithPair_23 dd_N_graphWithPair_25 dd_N_graphWithPair_28 (by decide +kernel) tw_cl159 tw_in1 (by decide +kernel) (by decide +kernel) (by decide +kernel) (by decide +kernel) tw_at1 hd hu hq
theorem th_N_vertex_19 (hd : 5 < d) (hu : u + 1 ≤ u0) (hq : Q (.inr 2) h) : tm_T M_N_vertex d u0 Q u 19 L [] h := tm_throw2 (by decide +kernel) (by decide +kernel) (by decide +kernel) (by decide +kernel) (ik := 56) (is := 58) (ic := 60) (k := 2) (text := "the graph has all the vertices it can have") dd_N_vertex_19 dd_N_vertex_22 dd_N_vertex_23 dd_N_vertex_25 dd_N_vertex_28 (by decide +kernel) tw_cl56 tw_in2 (by decide +kernel) (by decide +kernel) (by decide +kernel) (by decide +kernel) tw_at2 hd hu hq
theorem th_N_join_19 (hd : 5 < d) (hu : u + 1 ≤ u0) (hq : Q (.inr 2) h) : tm_T M_N_join d u0 Q u 19 L [] h := tm_throw2 (by decide +kernel) (by decide +kernel) (by decide +kernel) (by decide +kernel) (ik := 56) (is := 83) (ic := 60) (k := 2) (text := "the edge is there") dd_N_join_19 dd_N_join_22 dd_N_join_23 dd_N_join_25 dd_N_join_28 (by decide +kernel) tw_cl56 tw_in2 (by decide +kernel) (by decide +kernel) (by decide +kernel) (by decide +kernel) tw_at2 hd hu hq
theorem th_N_part_19 (hd : 5 < d) (hu : u + 1 ≤ u0) (hq : Q (.inr 2) h) : tm_T M_N_part d u0 Q u 19 L [] h := tm_throw2 (by decide +kernel) (by decide +kernel) (by decide +kernel) (by decide +kernel) (ik := 56) (is := 93) (ic := 60) (k := 2) (text := "the edge isn't there") dd_N_part_19 dd_N_part_22 dd_N_part_23 dd_N_part_25 dd_N_part_28 (by decide +kernel) tw_cl56 tw_in2 (by decide +kernel) (by decide +kernel) (by decide +kernel) (by decide +kernel) tw_at2 hd hu hq
end BP
