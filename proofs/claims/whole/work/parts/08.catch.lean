section TML
/-- a row of the table that names a class not resolved yet, or resolved -/
theorem tm_go_link {E : CtlPost} {e : Env} {d : Bool} {acts : List Action} {s : State} {f : JFrame} {a : Addr} {Q : Handler → Pre} {x : ExceptionTableEntry} {t : List ExceptionTableEntry} {c : ClassId} {cell : Cell} (hx : covers x f.pc = true) (h0 : x.catchType ≠ 0)
    (hl : s.vm.ClassLinks e.platform f.method.cls x.catchType c) (hcell : s.heap[a]? = some cell) (hobj : ∀ k, cell.vm ≠ .statics k) (hk : ∃ k, s.vm.classes[cell.cls]? = some k) (hc : ∃ k, s.vm.classes[c]? = some k) :
    wp (findHandler.go f a (x :: t)) Q E e d acts s ↔ if s.vm.assignable cell.cls c = true then Q (.found x.handlerPc) d acts (s.setVm (s.vm.noted f.method.cls x.catchType (.cls c))) else wp (findHandler.go f a t) Q E e d acts (s.setVm (s.vm.noted f.method.cls x.catchType (.cls c))) := by
  simp only [covers] at hx
  obtain ⟨ha, ht⟩ := (resolveClass_links e.toSetting hl).op (op := VmOp.resolveClass f.method.cls x.catchType) rfl
  have hal : s.vm.Alike (s.vm.noted f.method.cls x.catchType (.cls c)) := (Vm.Alike.refl s.vm).noted _ _ _
  obtain ⟨k1, hk1⟩ := hk
  obtain ⟨k2, hk2⟩ := hc
  obtain ⟨k1', hk1', -⟩ := hal.2.2 _ _ hk1
  obtain ⟨k2', hk2', -⟩ := hal.2.2 _ _ hk2
  have has : (s.vm.noted f.method.cls x.catchType (.cls c)).assignable cell.cls c = s.vm.assignable cell.cls c := hal.assignable _ _
  cases hfit : s.vm.assignable cell.cls c <;> rw [hfit] at has <;>
    simp [findHandler.go, hx, h0, ha, ht, hcell, hobj, hk1', hk2', has, VmOp.dirties, VmOp.acts]
/-- which handler takes exception number k at pc -/
def tm_ct (own : String) (pc k : Nat) : List (Nat × Nat × Nat × Nat) → Nat → Prop
  | [], _ => False
  | q :: t, r => (¬ (q.1 ≤ pc ∧ pc < q.2.1) ∧ tm_ct own pc k t r) ∨ ((q.1 ≤ pc ∧ pc < q.2.1) ∧ q.2.2.2 ≠ 0 ∧ ∃ nm, Cond.classLink own q.2.2.2 nm ∈ tm_ws ∧ ((Cond.castable (tm_ex k) nm ∈ tm_ws ∧ r = q.2.2.1) ∨ ((tm_ex k, nm) ∈ tm_ncs ∧ tm_ct own pc k t r)))
theorem tm_find {e : Env} {s : State} {args : Array Value} {f : JFrame} {a : Addr} {own : String} {k : Nat} {cell : Cell} (hpl : e.platform.magicAccessors = ({} : Platform).magicAccessors) (hown : s.vm.findClass own = some f.method.cls) (hw : ∀ w ∈ tm_ws, w.before args s = true) (hN : ∀ q ∈ tm_ncs, va_Nc q.1 q.2 s)
    (hcl : s.vm.findClass (tm_ex k) = some cell.cls) (hobj : ∀ k, cell.vm ≠ .statics k) : ∀ (hh : List (Nat × Nat × Nat × Nat)) (r : Nat), tm_ct own f.pc k hh r → ∀ S : State, s.WarmedH S.vm → S.heap[a]? = some cell →
      ∃ vm', s.WarmedH vm' ∧ ∀ (Q : Handler → Pre) (E : CtlPost) (d : Bool) (acts : List Action), wp (findHandler.go f a (tableOf hh)) Q E e d acts S ↔ Q (.found r) d acts (S.setVm vm')
  | [], _, h, _, _, _ => h.elim
  | q :: t, r, h, S, hW, hcell => by
    obtain ⟨k0, hk0, -⟩ := Vm.findClass_spec hcl
    obtain ⟨k0', hk0', -⟩ := hW.alike.2.2 _ _ hk0
    rcases h with ⟨hn, h⟩ | ⟨hc, h0, nm, hl, h⟩
    · obtain ⟨vm', h1, h2⟩ := tm_find hpl hown hw hN hcl hobj t r h S hW hcell
      refine ⟨vm', h1, fun Q E d acts => ?_⟩
      show wp (findHandler.go f a (⟨q.1, q.2.1, q.2.2.1, q.2.2.2⟩ :: tableOf t)) Q E e d acts S ↔ _
      rw [W.findHandler_go_skip (by simp only [covers]; simpa using hn)]
      exact h2 Q E d acts
    · have hcov : covers (⟨q.1, q.2.1, q.2.2.1, q.2.2.2⟩ : ExceptionTableEntry) f.pc = true := by simp only [covers]; simpa using hc
      obtain ⟨c', hc', hcls⟩ := Cond.classLink_spec hown (hw _ hl) e.platform hpl
      obtain ⟨dk, _, _, kt, hd, _, _, _, _, hkt, _, hopen⟩ := hcls.here
      obtain ⟨kt', hkt', -⟩ := hW.alike.2.2 _ _ hkt
      have hW1 := hW.noted hd hopen (State.rightAt_cls hcls)
      rcases h with ⟨hcast, rfl⟩ | ⟨hno, h⟩
      · obtain ⟨c3, c4, e3, e4, hasg⟩ := Cond.castable_spec (hw _ hcast)
        cases Option.some.inj (e3.symm.trans hcl)
        cases Option.some.inj (e4.symm.trans hc')
        refine ⟨_, hW1, fun Q E d acts => ?_⟩
        show wp (findHandler.go f a (⟨q.1, q.2.1, q.2.2.1, q.2.2.2⟩ :: tableOf t)) Q E e d acts S ↔ _
        rw [tm_go_link hcov h0 (hW.classLinks hcls) hcell hobj ⟨k0', hk0'⟩ ⟨kt', hkt'⟩, if_pos (by rw [hW.alike.assignable]; exact hasg)]
      · obtain ⟨c3, c4, e3, e4, hasg⟩ := hN _ hno
        cases Option.some.inj (e3.symm.trans hcl)
        cases Option.some.inj (e4.symm.trans hc')
        obtain ⟨vm', h1, h2⟩ := tm_find hpl hown hw hN hcl hobj t r h (S.setVm (S.vm.noted f.method.cls q.2.2.2 (.cls c'))) hW1 hcell
        refine ⟨vm', h1, fun Q E d acts => ?_⟩
        show wp (findHandler.go f a (⟨q.1, q.2.1, q.2.2.1, q.2.2.2⟩ :: tableOf t)) Q E e d acts S ↔ _
        rw [tm_go_link hcov h0 (hW.classLinks hcls) hcell hobj ⟨k0', hk0'⟩ ⟨kt', hkt'⟩, if_neg (by rw [hW.alike.assignable, hasg]; decide)]
        exact h2 Q E d acts
/-- one step: into the handler -/
theorem tm_caught {tb : Tables} {e : Env} {T target : State} {g : JFrame} {c : Code} {below : List Frame} {a : Addr} {pc : Nat} {vm' : Vm} (h : At T g.method c below)
    (hfind : ∀ (Q : Handler → Pre) (E : CtlPost) (d : Bool) (acts : List Action), wp (findHandler g a) Q E e d acts ((T.setTop g).pushFrame (.throwing a)) ↔ Q (.found pc) d acts (((T.setTop g).pushFrame (.throwing a)).setVm vm'))
    (hrest : Steps tb e below ((T.setVm vm').setTop { g with pc := pc, stack := [.ref a] }) target) : Steps tb e below ((T.setTop g).pushFrame (.throwing a)) target := by
  obtain ⟨hgo, hw⟩ := h.throwing a
  refine Steps.head hgo hw ?_
  have hs : (stepThrowing e ((T.setTop g).pushFrame (.throwing a)) a (.java g :: T.frames.tail)).1 = (((T.setTop g).pushFrame (.throwing a)).setVm vm').setFrames (.java { g with pc := pc, stack := [.ref a] } :: T.frames.tail) := by
    simp only [stepThrowing, searchFrame, vmDo]
    generalize hr : Sem.go _ e false [] ((T.setTop g).pushFrame (.throwing a)) = res
    obtain ⟨as, rfl, ha⟩ := Sem.eq_ok_of hr (a := Handler.found pc) (s' := ((T.setTop g).pushFrame (.throwing a)).setVm vm') (acts' := []) (by simp [hfind _ _ _ _])
    rfl
  rw [stepThread_throwing (frames_entered h.top _), hs]
  obtain ⟨g₀, hg⟩ := Option.isSome_iff_exists.mp h.top
  obtain ⟨r, hr⟩ := State.topJava?_eq_some.mp hg
  have e1 : ((T.setTop g).pushFrame (.throwing a)).setVm vm' = (((T.setVm vm').setTop g).pushFrame (.throwing a)) := rfl
  have hr' : (T.setVm vm').frames = .java g₀ :: r := hr
  rw [e1, State.pushFrame, State.setFrames_setFrames, State.setTop_of_frames _ hr', State.setFrames_setFrames]
  rw [State.setTop_of_frames _ hr'] at hrest
  rw [hr]
  exact hrest
variable {M : tm_M} {d u0 u : Nat} {Q : tm_O → tm_Hp → Prop} {pc : Nat} {L : List (Option Value)} {st : List Value} {h : tm_Hp}
/-- caught: the exception is stored, a constant answered -/
theorem tm_H_ret {k hp j : Nat} {n : Int} {v : Int32} (hc : tm_ct (tm_own M) pc k (tm_hh M) hp) (hj : j < tm_nL M) (hd : decode (tm_cc M) hp = .ok (.astore j, 2) ∧ decode (tm_cc M) (hp + 2) = .ok (.iconst n, 1) ∧ decode (tm_cc M) (hp + 3) = .ok (.ireturn, 1) ∨ ∃ jj : Fin 4, jj.val = j ∧ decode (tm_cc M) hp = .ok (.astore_n jj, 1) ∧ decode (tm_cc M) (hp + 1) = .ok (.iconst n, 1) ∧ decode (tm_cc M) (hp + 2) = .ok (.ireturn, 1))
    (hv : Int32.ofInt n = v) (ht : tm_rt M = some .int) (hq : Q (.inl (some (.int v))) h) : tm_H M d u0 Q u pc L k h := by
  intro p l e s m args below meth c H locs ls g D q ce rest h1 h2 h3 h4 h5 h6 h7 h8 h9 h10 h11 T hT X
  have hpl : e.platform.magicAccessors = ({} : Platform).magicAccessors := by rw [X.admits.platform]
  have hobj : ∀ k, ce.vm ≠ .statics k := by intro k9 h9; rw [h10] at h9; cases h9
  obtain ⟨vm', hW', hf⟩ := tm_find (e := e) (f := F0 m pc ls rest) (a := q) (cell := ce) hpl h2.2.2.2.1 h2.2.2.2.2.1 h3.2.2.2.2 h11 hobj (tm_hh M) hp hc ((T.setTop (F0 m pc ls rest)).pushFrame (.throwing q)) X.warmed (by show T.heap[q]? = some ce; rw [hT]; exact h9)
  have X' := X.noted hW'
  have hw : W p l e (tm_rm d u0) s m args below meth c H locs u (6 * u) (tm_Z below g D Q u0 s) (F0 m hp ls [.ref q]) := by
    have fin : ∀ (ls' : Array Slot) (pc' : Nat), decode (tm_cc M) pc' = .ok (.iconst n, 1) → decode (tm_cc M) (pc' + 1) = .ok (.ireturn, 1) → W p l e (tm_rm d u0) s m args below meth c H locs u (6 * u) (tm_Z below g D Q u0 s) (F0 m pc' ls' []) := by
      intro ls' pc' e1 e2
      refine lv_iconst h2.1 h2.2.1 e1 hv ?_
      refine tm_ret (v := some (.int v)) rfl hq h5 h6 h8 ?_
      exact W.iret h2.1 h2.2.1 (h2.2.2.2.2.2.1.trans ht) (fun t ht _ => ⟨rfl, ht⟩) h6.2.2 e2 (hlocks := h2.2.2.2.2.2.2.1)
    rcases hd with ⟨e1, e2, e3⟩ | ⟨jj, rfl, e1, e2, e3⟩
    · exact lv_astore h2.1 h2.2.1 e1 h7 hj rfl (fun ls' _ => fin ls' _ e2 e3)
    · exact lv_astore_n h2.1 h2.2.1 e1 rfl h7 hj rfl (fun ls' _ => fin ls' _ e2 e3)
  obtain ⟨t, a1, a2⟩ := hw (T.setVm vm') hT X'
  refine ⟨t, ?_, a2⟩
  refine tm_caught (g := F0 m pc ls rest) X.here (fun Q E d acts => ?_) a1
  have hm : ((T.setTop (F0 m pc ls rest)).pushFrame (.throwing q)).vm.method? m = some meth := X.method'
  rw [W.findHandler_eq (meth := meth) (code := c) hm X.code, h2.2.2.2.2.2.2.2]
  exact hf Q E d acts
end TML
section TMM
variable {M : tm_M} {d u0 u : Nat} {Q : tm_O → tm_Hp → Prop} {pc : Nat} {L : List (Option Value)} {st : List Value} {h : tm_Hp}
/-- System.arraycopy, between two arrays of ints of the world -/
theorem tm_copy {i a b na nb : Nat} {f f' : Nat → Int32} {sp dp n : Int32} {r : List Value} (hd : decode (tm_cc M) pc = .ok (.invokestatic i, 3)) (hl : Cond.methodLink (tm_own M) i arraycopyName ∈ tm_ws) (hnat : Cond.native arraycopyName ∈ tm_ws) (hst : Cond.static arraycopyName ∈ tm_ws) (hini : Cond.initialized "java/lang/System" ∈ tm_ws)
    (ha : h a = tm_i na f) (hb : h b = tm_i nb f') (haK : a < tm_K) (hbK : b < tm_K) (h1 : ¬ sp < 0) (h2 : ¬ dp < 0) (h3 : ¬ n < 0) (h4 : sp.toNatClampNeg + n.toNatClampNeg ≤ na) (h5 : dp.toNatClampNeg + n.toNatClampNeg ≤ nb) (hr : (r.map fun v => v.category).sum ≤ 8) (hdd : 1 ≤ d)
    (hk : tm_T M d u0 Q u (pc + 3) L r (tm_up h b (tm_i nb (va_cpy f f' sp.toNatClampNeg dp.toNatClampNeg n.toNatClampNeg)))) : tm_T M d u0 Q u pc L (.int n :: .int dp :: .ref b :: .int sp :: .ref a :: r) h := by
  intro p l e s m args below meth c H locs ls g D w1 w2 w3 w4 w5 w6 w7 w8
  have he : (tm_W g h)[a]? = some (g.1 a, .inl (g.2.1, na, .inl f)) := by rw [tm_W_get g h haK, ha]; rfl
  have he' : (tm_W g h)[b]? = some (g.1 b, .inl (g.2.1, nb, .inl f')) := by rw [tm_W_get g h hbK, hb]; rfl
  obtain ⟨h0, hR0⟩ := w4
  have hcat : ((r.map (tm_v g.1)).map fun v => v.category).sum = (r.map fun v => v.category).sum := by
    rw [List.map_map]
    congr 1
    apply List.map_congr_left
    intro v _
    exact tm_v_cat g.1 v
  refine va_copyi (D := D) (A := tm_A g s.heap.size) w2.1 w2.2.1 (w2.2.2.1.trans w7.1.symm) w2.2.2.2.1 (w2.2.2.2.2.1 _ hl) (w2.2.2.2.2.1 _ hnat) (w2.2.2.2.2.1 _ hst) (w2.2.2.2.2.1 _ hini) w3.1 w5.1 (w3.2.1.va h _) w6 a b 0 0 he he' (ty := .int) rfl rfl rfl h1 h2 h3 h4 h5 (fun _ _ => rfl) (by show 1 ≤ d; exact hdd) (by
    rw [hcat]
    have hn : nativeFrameWords "java/lang/System" "arraycopy" 5 + 11 ≤ 48 := by decide
    show _ ≤ 64 * d
    omega) hd (fun H1 locs1 hP1 _ hS1 => ?_)
  have e1 : (tm_W g h).set b (g.1 b, .inl (g.2.1, nb, .inl (va_cpy f f' sp.toNatClampNeg dp.toNatClampNeg n.toNatClampNeg))) = tm_W g (tm_up h b (tm_i nb (va_cpy f f' sp.toNatClampNeg dp.toNatClampNeg n.toNatClampNeg))) := tm_W_set g h hbK (tm_i nb (va_cpy f f' sp.toNatClampNeg dp.toNatClampNeg n.toNatClampNeg))
  rw [e1] at hP1
  exact hk p l e s m args below meth c H1 locs1 ls g D w1 w2 w3 ⟨h0, hR0⟩ (tm_R.kept w3.2.1 (fun k hk => tm_up_n (by omega)) w5 w6 hS1 hR0.ltS hP1) hS1 w7 w8
/-- a switch -/
theorem tm_tsw {dflt lo hi : Int} {offs : Array Int} {len : Nat} {x : Int32} {r : List Value} (hd : decode (tm_cc M) pc = .ok (.tableswitch dflt lo hi offs, len)) (hp : 0 ≤ (pc : Int) + dflt)
    (hin : ∀ off, ¬ x.toInt < lo → ¬ hi < x.toInt → offs[(x.toInt - lo).toNat]? = some off → 0 ≤ (pc : Int) + off ∧ tm_T M d u0 Q u ((pc : Int) + off).toNat L r h) (hex : ¬ x.toInt < lo → ¬ hi < x.toInt → ∃ off, offs[(x.toInt - lo).toNat]? = some off)
    (hout : x.toInt < lo ∨ hi < x.toInt → tm_T M d u0 Q u ((pc : Int) + dflt).toNat L r h) : tm_T M d u0 Q u pc L (.int x :: r) h := by
  by_cases h1 : x.toInt < lo ∨ hi < x.toInt
  · exact tm_pl (hout h1) (fun p l e R s m args below meth c H locs cells slots Z ls g hF hl kk => lv_tableOut hF.1 hF.2.1 hd h1 (tm_tgt hp) (kk ls hl))
  · have h2 : ¬ x.toInt < lo := fun q => h1 (Or.inl q)
    have h3 : ¬ hi < x.toInt := fun q => h1 (Or.inr q)
    obtain ⟨off, ho⟩ := hex h2 h3
    obtain ⟨h4, h5⟩ := hin off h2 h3 ho
    exact tm_pl h5 (fun p l e R s m args below meth c H locs cells slots Z ls g hF hl kk => lv_tableIn hF.1 hF.2.1 hd h2 h3 ho (tm_tgt h4) (kk ls hl))
end TMM
