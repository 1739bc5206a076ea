section TMF
variable {M : tm_M} {d u0 u : Nat} {Q : tm_O → tm_Hp → Prop} {pc : Nat} {L : List (Option Value)} {st : List Value} {h : tm_Hp}
/-- an instruction that leaves the heap alone -/
theorem tm_pl {pc' : Nat} {L' : List (Option Value)} {st' : List Value} (hk : tm_T M d u0 Q u pc' L' st' h)
    (hw : ∀ (p : Program) (l : Launch) (e : Env) (R : Room) (s : State) (m : MethodId) (args : Array Value) (below : List Frame) (meth : Method) (c : Code) (H : Heap) (locs : List Loc) (cells slots : Nat) (Z : State → Prop) (ls : Array Slot) (g : tm_G), tm_F M p s m args meth c → lv_has ls (tm_nL M) (tm_l g.1 L) →
      (∀ ls', lv_has ls' (tm_nL M) (tm_l g.1 L') → W p l e R s m args below meth c H locs cells slots Z (F0 m pc' ls' (st'.map (tm_v g.1)))) → W p l e R s m args below meth c H locs cells slots Z (F0 m pc ls (st.map (tm_v g.1)))) : tm_T M d u0 Q u pc L st h := by
  intro p l e s m args below meth c H locs ls g D h1 h2 h3 h4 h5 h6 h7 h8
  exact hw p l e _ s m args below meth c H locs _ _ _ ls g h2 h7 (fun ls' h7' => hk p l e s m args below meth c H locs ls' g D h1 h2 h3 h4 h5 h6 h7' h8)
/-- a branch -/
theorem tm_br {P : Prop} {pc1 pc2 : Nat} {st' : List Value} (k1 : P → tm_T M d u0 Q u pc1 L st' h) (k2 : ¬ P → tm_T M d u0 Q u pc2 L st' h)
    (hw : ∀ (p : Program) (l : Launch) (e : Env) (R : Room) (s : State) (m : MethodId) (args : Array Value) (below : List Frame) (meth : Method) (c : Code) (H : Heap) (locs : List Loc) (cells slots : Nat) (Z : State → Prop) (ls : Array Slot) (g : tm_G), tm_F M p s m args meth c →
      (P → W p l e R s m args below meth c H locs cells slots Z (F0 m pc1 ls (st'.map (tm_v g.1)))) → (¬ P → W p l e R s m args below meth c H locs cells slots Z (F0 m pc2 ls (st'.map (tm_v g.1)))) → W p l e R s m args below meth c H locs cells slots Z (F0 m pc ls (st.map (tm_v g.1)))) : tm_T M d u0 Q u pc L st h := by
  intro p l e s m args below meth c H locs ls g D h1 h2 h3 h4 h5 h6 h7 h8
  exact hw p l e _ s m args below meth c H locs _ _ _ ls g h2 (fun q => k1 q p l e s m args below meth c H locs ls g D h1 h2 h3 h4 h5 h6 h7 h8) (fun q => k2 q p l e s m args below meth c H locs ls g D h1 h2 h3 h4 h5 h6 h7 h8)
theorem tm_tgt {pc : Nat} {off : Int} (h : 0 ≤ (pc : Int) + off) : (pc : Int) + off = ((((pc : Int) + off).toNat : Nat) : Int) := (Int.toNat_of_nonneg h).symm
theorem tm_T_ifc {o : ClassFile.Cond} {off : Int} {x : Int32} {r : List Value} (hd : decode (tm_cc M) pc = .ok (.ifCond o off, 3)) (hp : 0 ≤ (pc : Int) + off) (k1 : tm_cp o x 0 → tm_T M d u0 Q u ((pc : Int) + off).toNat L r h) (k2 : ¬ tm_cp o x 0 → tm_T M d u0 Q u (pc + 3) L r h) : tm_T M d u0 Q u pc L (.int x :: r) h := by
  refine tm_br (P := tm_cp o x 0) k1 k2 ?_
  intro p l e R s m args below meth c H locs cells slots Z ls g hF w1 w2
  cases o
  · exact lv_if_eq hF.1 hF.2.1 hd (tm_tgt hp) w1 w2
  · exact lv_if_ne hF.1 hF.2.1 hd (tm_tgt hp) w1 (fun q => w2 (by first | exact q | exact fun z => z q))
  · exact lv_if_lt hF.1 hF.2.1 hd (tm_tgt hp) w1 w2
  · exact lv_if_ge hF.1 hF.2.1 hd (tm_tgt hp) w1 w2
  · exact lv_if_gt hF.1 hF.2.1 hd (tm_tgt hp) w1 w2
  · exact lv_if_le hF.1 hF.2.1 hd (tm_tgt hp) w1 w2
theorem tm_T_icmp {o : ClassFile.Cond} {off : Int} {x y : Int32} {r : List Value} (hd : decode (tm_cc M) pc = .ok (.if_icmp o off, 3)) (hp : 0 ≤ (pc : Int) + off) (k1 : tm_cp o x y → tm_T M d u0 Q u ((pc : Int) + off).toNat L r h) (k2 : ¬ tm_cp o x y → tm_T M d u0 Q u (pc + 3) L r h) : tm_T M d u0 Q u pc L (.int y :: .int x :: r) h := by
  refine tm_br (P := tm_cp o x y) k1 k2 ?_
  intro p l e R s m args below meth c H locs cells slots Z ls g hF w1 w2
  cases o
  · exact lv_icmp_eq hF.1 hF.2.1 hd (tm_tgt hp) w1 w2
  · exact lv_icmp_ne hF.1 hF.2.1 hd (tm_tgt hp) w1 (fun q => w2 (by first | exact q | exact fun z => z q))
  · exact lv_icmp_lt hF.1 hF.2.1 hd (tm_tgt hp) w1 w2
  · exact lv_icmp_ge hF.1 hF.2.1 hd (tm_tgt hp) w1 w2
  · exact lv_icmp_gt hF.1 hF.2.1 hd (tm_tgt hp) w1 w2
  · exact lv_icmp_le hF.1 hF.2.1 hd (tm_tgt hp) w1 w2
theorem tm_o_nd {ci : Nat} {fs : List Value} (hc : ci < tm_cl.length) : tm_o ci fs ≠ tm_dead := by
  intro q
  have hl := tm_cl_len
  simp only [tm_o, tm_dead, Sum.inr.injEq, Prod.mk.injEq] at q
  omega
theorem tm_T_getf {i a ci j : Nat} {r fs : List Value} {v : Value} (hd : decode (tm_cc M) pc = .ok (.getfield i, 3)) (hq : tm_fl (tm_own M) i = some (ci, j)) (hfs : h a = tm_o ci fs) (hv : fs[j]? = some v) (hk : tm_T M d u0 Q u (pc + 3) L (v :: r) h) : tm_T M d u0 Q u pc L (.ref a :: r) h := by
  obtain ⟨C, T, N, ty, c1, c2, c3, c4, c5, c6⟩ := tm_fl_ok hq
  intro p l e s m args below meth c H locs ls g D h1 h2 h3 h4 h5 h6 h7 h8
  have haK : a < tm_K := tm_R.in h5 (by rw [hfs]; exact tm_o_nd (List.getElem?_eq_some_iff.mp c1).1) (fun n f => by rw [hfs]; exact fun q => nomatch q)
  have he : (tm_W g h)[a]? = some (g.1 a, .inr (ci, fs.map (tm_v g.1))) := by rw [tm_W_get g h haK, hfs]; rfl
  have hv' : (fs.map (tm_v g.1))[j]? = some (tm_v g.1 v) := by rw [List.getElem?_map, hv]; rfl
  have w := hk p l e s m args below meth c H locs ls g D h1 h2 h3 h4 h5 h6 h7 h8
  rcases c6 with c6 | ⟨host, c6⟩
  · exact va_get (D := D) h2.1 h2.2.1 h2.2.2.2.2.1 c3 h2.2.2.2.1 h3.1 h5.1 a he c1 j c2 (h2.2.2.2.2.1 _ c6) (fun _ q => q) hv' hd w
  · exact va_getN (D := D) h2.1 h2.2.1 h2.2.2.2.2.1 c3 h2.2.2.2.1 h3.1 h5.1 a he c1 j c2 (h2.2.2.2.2.1 _ c6) (fun _ q => q) hv' hd w
theorem tm_T_putf {i a ci j : Nat} {b : Bool} {r fs : List Value} {v : Value} (hd : decode (tm_cc M) pc = .ok (.putfield i, 3)) (hq : tm_fp (tm_own M) i = some (ci, j, b)) (hb : (b = true ∧ ∃ x, v = .int x) ∨ (b = false ∧ ∃ x, v = .ref x)) (hfs : h a = tm_o ci fs) (hl : j < fs.length) (hk : tm_T M d u0 Q u (pc + 3) L r (tm_up h a (tm_o ci (fs.set j v)))) : tm_T M d u0 Q u pc L (v :: .ref a :: r) h := by
  obtain ⟨C, T, N, ty, c1, c2, c3, c4, c5, c6, c7, c8⟩ := tm_fp_ok hq
  intro p l e s m args below meth c H locs ls g D h1 h2 h3 h4 h5 h6 h7 h8
  have haK : a < tm_K := tm_R.in h5 (by rw [hfs]; exact tm_o_nd (List.getElem?_eq_some_iff.mp c1).1) (fun n f => by rw [hfs]; exact fun q => nomatch q)
  have he : (tm_W g h)[a]? = some (g.1 a, .inr (ci, fs.map (tm_v g.1))) := by rw [tm_W_get g h haK, hfs]; rfl
  have hn : narrow (ty j) (tm_v g.1 v) = tm_v g.1 v ∧ fits (ty j) (tm_v g.1 v) = true := by
    rcases hb with ⟨rfl, x, rfl⟩ | ⟨rfl, x, rfl⟩
    · have c9 : ty j = .int := c8
      rw [c9]; exact ⟨rfl, rfl⟩
    · have c9 : ty j = .array .int := c8
      rw [c9]; exact ⟨rfl, rfl⟩
  obtain ⟨h0, hR0⟩ := h4
  have key : ∀ (H1 : Heap) (locs1 : List Loc), va_P D tm_cl ((tm_W g h).set a (g.1 a, .inr (ci, (fs.map (tm_v g.1)).set j (tm_v g.1 v)))) H1 → va_D (tm_A g s.heap.size) ((tm_W g h).set a (g.1 a, .inr (ci, (fs.map (tm_v g.1)).set j (tm_v g.1 v)))) → va_S (tm_A g s.heap.size) s.heap H1 locs1 →
      W p l e (tm_rm d u0) s m args below meth c H1 locs1 u (6 * u) (tm_Z below g D Q u0 s) (F0 m (pc + 3) ls (r.map (tm_v g.1))) := by
    intro H1 locs1 hP1 _ hS1
    have e1 : (tm_W g h).set a (g.1 a, .inr (ci, (fs.map (tm_v g.1)).set j (tm_v g.1 v))) = tm_W g (tm_up h a (tm_o ci (fs.set j v))) := by
      rw [← tm_W_set g h haK, ← List.map_set]
      rfl
    rw [e1] at hP1
    exact hk p l e s m args below meth c H1 locs1 ls g D h1 h2 h3 ⟨h0, hR0⟩ (tm_R.kept h3.2.1 (fun k hk => tm_up_n (by omega)) h5 h6 hS1 hR0.ltS hP1) hS1 h7 h8
  rcases c6 with c6 | ⟨host, c6⟩
  · exact va_put (D := D) (A := tm_A g s.heap.size) h2.1 h2.2.1 h2.2.2.2.2.1 c3 ty c4 c5 h2.2.2.2.1 h3.1 h5.1 (h3.2.1.va h _) h6 a he c1 j c2 (h2.2.2.2.2.1 _ c6) (fun _ q => q) c7 (c4 j c2) hn.1 hn.2 (by rw [List.length_map]; exact hl) hd key
  · exact va_putN (D := D) (A := tm_A g s.heap.size) h2.1 h2.2.1 h2.2.2.2.2.1 c3 ty c4 c5 h2.2.2.2.1 h3.1 h5.1 (h3.2.1.va h _) h6 a he c1 j c2 (h2.2.2.2.2.1 _ c6) (fun _ q => q) c7 (c4 j c2) hn.1 hn.2 (by rw [List.length_map]; exact hl) hd key
/-- the script's place, where an array of ints isn't in the world -/
theorem tm_sc {g : tm_G} {D : va_G} {s : State} {H : Heap} {locs : List Loc} {a n : Nat} {f : Nat → Int32} (hD : tm_D g) (h0 : ∃ h0, tm_R g D h0 s s.heap) (h5 : tm_R g D h s H) (h6 : va_S (tm_A g s.heap.size) s.heap H locs) (hfs : h a = tm_i n f) (ha : ¬ a < tm_K) : a = tm_K ∧ va_X (g.1 a) n f s s.heap ∧ g.1 a < s.heap.size ∧ ¬ tm_A g s.heap.size (g.1 a) := by
  obtain ⟨h0, hR0⟩ := h0
  have e : a = tm_K := by
    rcases Nat.lt_trichotomy a tm_K with q | q | q
    · exact absurd q ha
    · exact q
    · have := h5.2.2 a q
      rw [hfs] at this
      exact nomatch this
  subst e
  have hlt := hR0.ltS
  have hn : ¬ tm_A g s.heap.size (g.1 tm_K) := by
    rintro (⟨k, h8, h9⟩ | h8)
    · have := hD _ _ (Nat.le_refl _) (Nat.le_of_lt h8) h9
      omega
    · omega
  obtain ⟨L0, xs, e1, e2⟩ := h5.2.1
  rw [hfs] at e1
  simp only [tm_i, Sum.inl.injEq, Prod.mk.injEq, true_and] at e1
  obtain ⟨rfl, rfl⟩ := e1
  exact ⟨rfl, va_X.kept e2 (h6.2.1 _ hlt hn).symm, hlt, hn⟩
theorem tm_T_iald {a n : Nat} {f : Nat → Int32} {i : Int32} {r : List Value} (hd : decode (tm_cc M) pc = .ok (.iaload, 1)) (hfs : h a = tm_i n f) (hi : vp_in i n) (hk : tm_T M d u0 Q u (pc + 1) L (.int (f i.toNatClampNeg) :: r) h) : tm_T M d u0 Q u pc L (.int i :: .ref a :: r) h := by
  intro p l e s m args below meth c H locs ls g D h1 h2 h3 h4 h5 h6 h7 h8
  have w := hk p l e s m args below meth c H locs ls g D h1 h2 h3 h4 h5 h6 h7 h8
  by_cases haK : a < tm_K
  · have he : (tm_W g h)[a]? = some (g.1 a, .inl (g.2.1, n, .inl f)) := by rw [tm_W_get g h haK, hfs]; rfl
    exact va_iald (D := D) h2.1 h2.2.1 h3.1 h5.1 a 0 he rfl hi hd w
  · obtain ⟨-, hX, hlt, hn⟩ := tm_sc h3.2.1 h4 h5 h6 hfs haK
    exact va_sld h2.1 h2.2.1 hX hlt hn h6 hi hd w
theorem tm_T_alen {a n : Nat} {f : Nat → Int32} {r : List Value} (hd : decode (tm_cc M) pc = .ok (.arraylength, 1)) (hfs : h a = tm_i n f) (hk : tm_T M d u0 Q u (pc + 1) L (.int (nI n) :: r) h) : tm_T M d u0 Q u pc L (.ref a :: r) h := by
  intro p l e s m args below meth c H locs ls g D h1 h2 h3 h4 h5 h6 h7 h8
  have w := hk p l e s m args below meth c H locs ls g D h1 h2 h3 h4 h5 h6 h7 h8
  by_cases haK : a < tm_K
  · have he : (tm_W g h)[a]? = some (g.1 a, .inl (g.2.1, n, .inl f)) := by rw [tm_W_get g h haK, hfs]; rfl
    exact va_alen (D := D) h2.1 h2.2.1 h3.1 h5.1 a 0 he (ty := .int) rfl rfl hd w
  · obtain ⟨-, hX, hlt, hn⟩ := tm_sc h3.2.1 h4 h5 h6 hfs haK
    exact va_slen h2.1 h2.2.1 hX hlt hn h6 hd w
theorem tm_T_zald {a n : Nat} {f : Nat → Int32} {i : Int32} {r : List Value} (hd : decode (tm_cc M) pc = .ok (.baload, 1)) (hfs : h a = tm_z n f) (hi : vp_in i n) (hk : tm_T M d u0 Q u (pc + 1) L (.int (f i.toNatClampNeg) :: r) h) : tm_T M d u0 Q u pc L (.int i :: .ref a :: r) h := by
  intro p l e s m args below meth c H locs ls g D h1 h2 h3 h4 h5 h6 h7 h8
  have haK : a < tm_K := tm_R.in h5 (by rw [hfs]; exact fun q => nomatch q) (fun n f => by rw [hfs]; intro q; simp [tm_z] at q)
  have he : (tm_W g h)[a]? = some (g.1 a, .inl (g.2.2.1, n, .inl f)) := by rw [tm_W_get g h haK, hfs]; rfl
  exact va_zald (D := D) h2.1 h2.2.1 h3.1 h5.1 a 1 he rfl hi hd (hk p l e s m args below meth c H locs ls g D h1 h2 h3 h4 h5 h6 h7 h8)
theorem tm_T_lald {a n : Nat} {f : Nat → Int64} {i : Int32} {r : List Value} (hd : decode (tm_cc M) pc = .ok (.laload, 1)) (hfs : h a = tm_j n f) (hi : vp_in i n) (hk : tm_T M d u0 Q u (pc + 1) L (.long (f i.toNatClampNeg) :: r) h) : tm_T M d u0 Q u pc L (.int i :: .ref a :: r) h := by
  intro p l e s m args below meth c H locs ls g D h1 h2 h3 h4 h5 h6 h7 h8
  have haK : a < tm_K := tm_R.in h5 (by rw [hfs]; exact fun q => nomatch q) (fun n f => by rw [hfs]; exact fun q => nomatch q)
  have he : (tm_W g h)[a]? = some (g.1 a, .inl (g.2.2.2.1, n, .inr (.inl f))) := by rw [tm_W_get g h haK, hfs]; rfl
  exact va_lald (D := D) h2.1 h2.2.1 h3.1 h5.1 a 2 he rfl hi hd (hk p l e s m args below meth c H locs ls g D h1 h2 h3 h4 h5 h6 h7 h8)
theorem tm_T_aald {a n b : Nat} {f : Nat → Option Nat} {i : Int32} {r : List Value} (hd : decode (tm_cc M) pc = .ok (.aaload, 1)) (hfs : h a = tm_q n f) (hi : vp_in i n) (hb : f i.toNatClampNeg = some b) (hk : tm_T M d u0 Q u (pc + 1) L (.ref b :: r) h) : tm_T M d u0 Q u pc L (.int i :: .ref a :: r) h := by
  intro p l e s m args below meth c H locs ls g D h1 h2 h3 h4 h5 h6 h7 h8
  have haK : a < tm_K := tm_R.in h5 (by rw [hfs]; exact fun q => nomatch q) (fun n f => by rw [hfs]; exact fun q => nomatch q)
  have he : (tm_W g h)[a]? = some (g.1 a, .inl (g.2.2.2.2, n, .inr (.inr (.inr (.inr (fun j => (f j).map g.1)))))) := by rw [tm_W_get g h haK, hfs]; rfl
  refine va_aldq (D := D) (C := tm_GC) h2.1 h2.2.1 h3.1 h5.1 a 3 he rfl hi hd ?_
  have w := hk p l e s m args below meth c H locs ls g D h1 h2 h3 h4 h5 h6 h7 h8
  show W p l e (tm_rm d u0) s m args below meth c H locs u (6 * u) (tm_Z below g D Q u0 s) (F0 m (pc + 1) ls (va_rf ((f i.toNatClampNeg).map g.1) :: r.map (tm_v g.1)))
  rw [hb]
  exact w
theorem tm_T_iast {a n : Nat} {f : Nat → Int32} {i x : Int32} {r : List Value} (hd : decode (tm_cc M) pc = .ok (.iastore, 1)) (hfs : h a = tm_i n f) (haK : a < tm_K) (hi : vp_in i n) (hk : tm_T M d u0 Q u (pc + 1) L r (tm_up h a (tm_i n (upd f i.toNatClampNeg x)))) : tm_T M d u0 Q u pc L (.int x :: .int i :: .ref a :: r) h := by
  intro p l e s m args below meth c H locs ls g D h1 h2 h3 h4 h5 h6 h7 h8
  have he : (tm_W g h)[a]? = some (g.1 a, .inl (g.2.1, n, .inl f)) := by rw [tm_W_get g h haK, hfs]; rfl
  obtain ⟨h0, hR0⟩ := h4
  refine va_iast (D := D) (A := tm_A g s.heap.size) h2.1 h2.2.1 h3.1 h5.1 (h3.2.1.va h _) h6 a 0 he rfl hi hd (fun H1 locs1 hP1 _ hS1 => ?_)
  have e1 : (tm_W g h).set a (g.1 a, .inl (g.2.1, n, .inl (upd f i.toNatClampNeg x))) = tm_W g (tm_up h a (tm_i n (upd f i.toNatClampNeg x))) := tm_W_set g h haK (tm_i n (upd f i.toNatClampNeg x))
  rw [e1] at hP1
  exact hk p l e s m args below meth c H1 locs1 ls g D h1 h2 h3 ⟨h0, hR0⟩ (tm_R.kept h3.2.1 (fun k hk => tm_up_n (by omega)) h5 h6 hS1 hR0.ltS hP1) hS1 h7 h8
theorem tm_T_zast {a n : Nat} {f : Nat → Int32} {i x : Int32} {r : List Value} (hd : decode (tm_cc M) pc = .ok (.bastore, 1)) (hfs : h a = tm_z n f) (hi : vp_in i n) (hk : tm_T M d u0 Q u (pc + 1) L r (tm_up h a (tm_z n (upd f i.toNatClampNeg (vp_nar .boolean x))))) : tm_T M d u0 Q u pc L (.int x :: .int i :: .ref a :: r) h := by
  intro p l e s m args below meth c H locs ls g D h1 h2 h3 h4 h5 h6 h7 h8
  have haK : a < tm_K := tm_R.in h5 (by rw [hfs]; exact fun q => nomatch q) (fun n f => by rw [hfs]; intro q; simp [tm_z] at q)
  have he : (tm_W g h)[a]? = some (g.1 a, .inl (g.2.2.1, n, .inl f)) := by rw [tm_W_get g h haK, hfs]; rfl
  obtain ⟨h0, hR0⟩ := h4
  refine va_zast (D := D) (A := tm_A g s.heap.size) h2.1 h2.2.1 h3.1 h5.1 (h3.2.1.va h _) h6 a 1 he rfl hi hd (fun H1 locs1 hP1 _ hS1 => ?_)
  have e1 : (tm_W g h).set a (g.1 a, .inl (g.2.2.1, n, .inl (upd f i.toNatClampNeg (vp_nar .boolean x)))) = tm_W g (tm_up h a (tm_z n (upd f i.toNatClampNeg (vp_nar .boolean x)))) := tm_W_set g h haK (tm_z n (upd f i.toNatClampNeg (vp_nar .boolean x)))
  rw [e1] at hP1
  exact hk p l e s m args below meth c H1 locs1 ls g D h1 h2 h3 ⟨h0, hR0⟩ (tm_R.kept h3.2.1 (fun k hk => tm_up_n (by omega)) h5 h6 hS1 hR0.ltS hP1) hS1 h7 h8
theorem tm_T_last {a n : Nat} {f : Nat → Int64} {i : Int32} {x : Int64} {r : List Value} (hd : decode (tm_cc M) pc = .ok (.lastore, 1)) (hfs : h a = tm_j n f) (hi : vp_in i n) (hk : tm_T M d u0 Q u (pc + 1) L r (tm_up h a (tm_j n (vp_updL f i.toNatClampNeg x)))) : tm_T M d u0 Q u pc L (.long x :: .int i :: .ref a :: r) h := by
  intro p l e s m args below meth c H locs ls g D h1 h2 h3 h4 h5 h6 h7 h8
  have haK : a < tm_K := tm_R.in h5 (by rw [hfs]; exact fun q => nomatch q) (fun n f => by rw [hfs]; exact fun q => nomatch q)
  have he : (tm_W g h)[a]? = some (g.1 a, .inl (g.2.2.2.1, n, .inr (.inl f))) := by rw [tm_W_get g h haK, hfs]; rfl
  obtain ⟨h0, hR0⟩ := h4
  refine va_last (D := D) (A := tm_A g s.heap.size) h2.1 h2.2.1 h3.1 h5.1 (h3.2.1.va h _) h6 a 2 he rfl hi hd (fun H1 locs1 hP1 _ hS1 => ?_)
  have e1 : (tm_W g h).set a (g.1 a, .inl (g.2.2.2.1, n, .inr (.inl (vp_updL f i.toNatClampNeg x)))) = tm_W g (tm_up h a (tm_j n (vp_updL f i.toNatClampNeg x))) := tm_W_set g h haK (tm_j n (vp_updL f i.toNatClampNeg x))
  rw [e1] at hP1
  exact hk p l e s m args below meth c H1 locs1 ls g D h1 h2 h3 ⟨h0, hR0⟩ (tm_R.kept h3.2.1 (fun k hk => tm_up_n (by omega)) h5 h6 hS1 hR0.ltS hP1) hS1 h7 h8
/-- an end by return -/
theorem tm_ret {p : Program} {l : Launch} {e : Env} {s : State} {m : MethodId} {args : Array Value} {below : List Frame} {meth : Method} {c : Code} {H : Heap} {locs : List Loc} {g : tm_G} {D : va_G} {fr : JFrame} {v : Option Value} {w : Option Value} (hv : v.map (tm_v g.1) = w) (hq : Q (.inl v) h) (h5 : tm_R g D h s H) (h6 : va_S (tm_A g s.heap.size) s.heap H locs) (h8 : u ≤ u0)
    (hw : W p l e (tm_rm d u0) s m args below meth c H locs u0 (6 * u0) (MQ below (fun _ _ oc t => oc = .returned w ∧ t.heap = H) args s u0 (6 * u0) (tm_A g s.heap.size)) fr) : W p l e (tm_rm d u0) s m args below meth c H locs u (6 * u) (tm_Z below g D Q u0 s) fr := by
  refine W.widen h8 (by omega) (tm_W_mono ?_ hw)
  rintro t ⟨oc, a1, a2, ⟨a3, a4⟩, Ls, ⟨a5, a6, a7⟩, a8⟩
  refine ⟨oc, a1, a2, .inl v, h, Ls, hq, ?_, by rw [a4]; exact h5, h6.F a4, a6, a7, a8⟩
  show oc = .returned (v.map (tm_v g.1))
  rw [a3, hv]
theorem tm_T_iret {x : Int32} (hd : decode (tm_cc M) pc = .ok (.ireturn, 1)) (ht : tm_rt M = some .int ∨ tm_rt M = some .boolean ∧ (x = 0 ∨ x = 1)) (hq : Q (.inl (some (.int x))) h) : tm_T M d u0 Q u pc L [.int x] h := by
  intro p l e s m args below meth c H locs ls g D h1 h2 h3 h4 h5 h6 h7 h8
  refine tm_ret (v := some (.int x)) rfl hq h5 h6 h8 ?_
  rcases ht with ht | ⟨ht, hx⟩
  · exact W.iret h2.1 h2.2.1 (h2.2.2.2.2.2.1.trans ht) (fun t ht _ => ⟨rfl, ht⟩) h6.2.2 hd (hlocks := h2.2.2.2.2.2.2.1)
  · exact W.zret (ty := .boolean) h2.1 h2.2.1 (h2.2.2.2.2.2.1.trans ht) (by rcases hx with rfl | rfl <;> rfl) (fun t ht _ => ⟨rfl, ht⟩) h6.2.2 hd (hlocks := h2.2.2.2.2.2.2.1)
theorem tm_T_aret {x : Nat} {n : String} (hd : decode (tm_cc M) pc = .ok (.areturn, 1)) (ht : tm_rt M = some (.object n)) (hq : Q (.inl (some (.ref x))) h) : tm_T M d u0 Q u pc L [.ref x] h := by
  intro p l e s m args below meth c H locs ls g D h1 h2 h3 h4 h5 h6 h7 h8
  refine tm_ret (v := some (.ref x)) rfl hq h5 h6 h8 ?_
  exact W.aret h2.1 h2.2.1 (h2.2.2.2.2.2.1.trans ht) (Or.inl ⟨n, rfl⟩) (Or.inr ⟨_, rfl⟩) (fun t ht _ => ⟨rfl, ht⟩) h6.2.2 hd (hlocks := h2.2.2.2.2.2.2.1)
theorem tm_T_vret (hd : decode (tm_cc M) pc = .ok (.return_, 1)) (ht : tm_rt M = none) (hq : Q (.inl none) h) : tm_T M d u0 Q u pc L [] h := by
  intro p l e s m args below meth c H locs ls g D h1 h2 h3 h4 h5 h6 h7 h8
  refine tm_ret (v := none) rfl hq h5 h6 h8 ?_
  exact W.vret h2.1 h2.2.1 (h2.2.2.2.2.2.1.trans ht) (fun t ht _ => ⟨rfl, ht⟩) h6.2.2 hd (hlocks := h2.2.2.2.2.2.2.1)
end TMF
