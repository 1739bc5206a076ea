section DE
theorem iw_N : Jvm.Cond.instantiable "GraphNamer" 6 ∈ kW := List.mem_filter.mpr ⟨List.mem_of_getElem? (i := 53) (by decide +kernel), by decide +kernel⟩
theorem iw_G : Jvm.Cond.instantiable "GraphNamer$Graph" 3 ∈ kW := List.mem_filter.mpr ⟨List.mem_of_getElem? (i := 62) (by decide +kernel), by decide +kernel⟩
theorem iw_U : Jvm.Cond.instantiable "GraphNamer$Numbering" 4 ∈ kW := List.mem_filter.mpr ⟨List.mem_of_getElem? (i := 88) (by decide +kernel), by decide +kernel⟩
theorem iw_Y : Jvm.Cond.instantiable "GraphNamer$Laying" 1 ∈ kW := List.mem_filter.mpr ⟨List.mem_of_getElem? (i := 110) (by decide +kernel), by decide +kernel⟩
theorem iw_P : Jvm.Cond.instantiable "GraphNamer$Parting" 2 ∈ kW := List.mem_filter.mpr ⟨List.mem_of_getElem? (i := 120) (by decide +kernel), by decide +kernel⟩
theorem iw_R : Jvm.Cond.instantiable "GraphNamerModel" 13 ∈ kW := List.mem_filter.mpr ⟨List.mem_of_getElem? (i := 579) (by decide +kernel), by decide +kernel⟩
theorem aw_i : Jvm.Cond.arrayClass .int ∈ kW := List.mem_filter.mpr ⟨List.mem_of_getElem? (i := 86) (by decide +kernel), by decide +kernel⟩
theorem aw_z : Jvm.Cond.arrayClass .boolean ∈ kW := List.mem_filter.mpr ⟨List.mem_of_getElem? (i := 624) (by decide +kernel), by decide +kernel⟩
theorem aw_j : Jvm.Cond.arrayClass .long ∈ kW := List.mem_filter.mpr ⟨List.mem_of_getElem? (i := 804) (by decide +kernel), by decide +kernel⟩
theorem aw_q : Jvm.Cond.arrayOver (.object tm_GC) ∈ lw_tbl := List.mem_of_getElem? (i := 61) (by decide +kernel)
theorem sw_193 : (Jvm.Cond.laysStatic "java/lang/Throwable" "UNASSIGNED_STACK" "[Ljava/lang/StackTraceElement;") ∈ lw_tbl := List.mem_of_getElem? (i := 193) (by decide +kernel)
theorem sw_195 : (Jvm.Cond.laysStatic "java/lang/Throwable" "SUPPRESSED_SENTINEL" "Ljava/util/List;") ∈ lw_tbl := List.mem_of_getElem? (i := 195) (by decide +kernel)
theorem sw_207 : (Jvm.Cond.stringRef "GraphNamer" (156 : Nat) "no such graph") ∈ lw_tbl := List.mem_of_getElem? (i := 207) (by decide +kernel)
theorem sw_246 : (Jvm.Cond.stringRef "GraphNamer" (168 : Nat) "the colour is not 0 .. 3") ∈ lw_tbl := List.mem_of_getElem? (i := 246) (by decide +kernel)
theorem sw_262 : (Jvm.Cond.stringRef "GraphNamer" (58 : Nat) "the graph has all the vertices it can have") ∈ lw_tbl := List.mem_of_getElem? (i := 262) (by decide +kernel)
theorem sw_287 : (Jvm.Cond.stringRef "GraphNamer" (164 : Nat) "no such vertex") ∈ lw_tbl := List.mem_of_getElem? (i := 287) (by decide +kernel)
theorem sw_299 : (Jvm.Cond.stringRef "GraphNamer" (161 : Nat) "the vertices are not different") ∈ lw_tbl := List.mem_of_getElem? (i := 299) (by decide +kernel)
theorem sw_304 : (Jvm.Cond.stringRef "GraphNamer" (83 : Nat) "the edge is there") ∈ lw_tbl := List.mem_of_getElem? (i := 304) (by decide +kernel)
theorem sw_330 : (Jvm.Cond.stringRef "GraphNamer" (93 : Nat) "the edge isn't there") ∈ lw_tbl := List.mem_of_getElem? (i := 330) (by decide +kernel)
theorem sw_494 : (Jvm.Cond.stringRef "GraphNamer" (166 : Nat) "a vertex in the set isn't there") ∈ lw_tbl := List.mem_of_getElem? (i := 494) (by decide +kernel)
/-- the world at the law's loop -/
def hI (L : Nat) (xs : Nat → Int32) : tm_Hp := fun k => match k with
  | 0 => tm_o 0 [.ref 1, .ref 5, .ref 14, .ref 18, .ref 22, .ref 24]
  | 1 => tm_q 3 (va_up (va_up (va_up (fun _ => none) 0 (some 2)) 1 (some 3)) 2 (some 4))
  | 2 => tm_o 1 [.int 0, .ref 6, .ref 7]
  | 3 => tm_o 1 [.int 0, .ref 8, .ref 9]
  | 4 => tm_o 1 [.int 0, .ref 10, .ref 11]
  | 5 => tm_o 1 [.int 0, .ref 12, .ref 13]
  | 6 => tm_i 7 (fun _ => 0)
  | 7 => tm_i 7 (fun _ => 0)
  | 8 => tm_i 7 (fun _ => 0)
  | 9 => tm_i 7 (fun _ => 0)
  | 10 => tm_i 7 (fun _ => 0)
  | 11 => tm_i 7 (fun _ => 0)
  | 12 => tm_i 7 (fun _ => 0)
  | 13 => tm_i 7 (fun _ => 0)
  | 14 => tm_o 2 [.int 0, .ref 15, .ref 16, .ref 17]
  | 15 => tm_i 7 (fun _ => 0)
  | 16 => tm_i 7 (fun _ => 0)
  | 17 => tm_i 7 (fun _ => 0)
  | 18 => tm_o 2 [.int 0, .ref 19, .ref 20, .ref 21]
  | 19 => tm_i 7 (fun _ => 0)
  | 20 => tm_i 7 (fun _ => 0)
  | 21 => tm_i 7 (fun _ => 0)
  | 22 => tm_o 3 [.ref 23]
  | 23 => tm_i 7 (fun _ => 0)
  | 24 => tm_o 4 [.ref 25, .ref 26]
  | 25 => tm_i 7 (fun _ => 0)
  | 26 => tm_i 7 (fun _ => 0)
  | 27 => tm_o 5 [.int 0, .ref 28, .ref 29, .ref 30, .ref 31, .ref 32, .int 0, .ref 33, .int 0, .ref 34, .ref 35, .ref 36, .ref 37]
  | 28 => tm_i 3 (fun _ => 0)
  | 29 => tm_i 21 (fun _ => 0)
  | 30 => tm_z 147 (fun _ => 0)
  | 31 => tm_i 7 (fun _ => 0)
  | 32 => tm_i 7 (fun _ => 0)
  | 33 => tm_i 7 (fun _ => 0)
  | 34 => tm_i 7 (fun _ => 0)
  | 35 => tm_i 7 (fun _ => 0)
  | 36 => tm_i 7 (fun _ => 0)
  | 37 => tm_z 49 (fun _ => 0)
  | 38 => tm_j 1 (fun _ => 0)
  | 39 => tm_i L xs
  | _ => tm_dead
def S0 : gSt := (fun _ => 0, fun _ _ => 0, fun _ _ => 0)
theorem hI_X (L : Nat) (xs : Nat → Int32) : gX S0 (hI L xs) := by
  refine ⟨⟨rfl, _, rfl, fun i hi => ?_⟩, fun g hg => ?_, ⟨0, _, _, rfl, rfl, rfl⟩, ⟨0, _, _, _, rfl, rfl, rfl, rfl⟩, ⟨0, _, _, _, rfl, rfl, rfl, rfl⟩, ⟨rfl, _, rfl⟩, ⟨25, 26, _, _, Or.inl ⟨rfl, rfl⟩, rfl, rfl, rfl, fun i hi => absurd hi (Nat.not_lt_zero i)⟩⟩
  · have : i = 0 ∨ i = 1 ∨ i = 2 := by omega
    rcases this with rfl | rfl | rfl <;> rfl
  · have : g = 0 ∨ g = 1 ∨ g = 2 := by omega
    rcases this with rfl | rfl | rfl
    · exact ⟨_, _, rfl, rfl, rfl, fun i hi => absurd hi (Nat.not_lt_zero i), fun i hi => absurd hi (Nat.not_lt_zero i), gOk_0⟩
    · exact ⟨_, _, rfl, rfl, rfl, fun i hi => absurd hi (Nat.not_lt_zero i), fun i hi => absurd hi (Nat.not_lt_zero i), gOk_0⟩
    · exact ⟨_, _, rfl, rfl, rfl, fun i hi => absurd hi (Nat.not_lt_zero i), fun i hi => absurd hi (Nat.not_lt_zero i), gOk_0⟩
theorem hI_Y (L : Nat) (xs : Nat → Int32) : gYq S0 0 (hI L xs) :=
  ⟨⟨0, 0, rfl⟩, ⟨_, _, _, rfl, rfl, rfl, fun g _ => ⟨rfl, gOk_0, fun v hv => absurd hv (Nat.not_lt_zero v), fun v _ hv => absurd hv (Nat.not_lt_zero v)⟩⟩, ⟨_, rfl⟩, ⟨_, rfl⟩, ⟨_, rfl⟩, ⟨_, rfl⟩, ⟨_, rfl⟩, ⟨_, rfl⟩, ⟨_, rfl⟩⟩
theorem up_map (a : Nat → Nat) (f : Nat → Option Nat) (k x : Nat) : (fun j => (va_up f k (some x) j).map a) = va_up (fun j => (f j).map a) k (some (a x)) := by
  funext j
  unfold va_up
  split <;> rfl
theorem st_K {args : Array Value} {s : State} (hts : ∀ w ∈ lw_tbl, w.before args s = true) : ∃ (D : va_G) (c1 c2 c3 c4 : ClassId), ∀ a : Nat → Nat, va_K D tm_cl (tm_ty (a, c1, c2, c3, c4)) s := by
  have kk : ∀ w ∈ kW, w.before args s = true := fun w hw => hts w (List.mem_filter.mp hw).1
  obtain ⟨n0, j0, k0⟩ := u_known (n := 6) kk uin_N (kk _ iw_N)
  obtain ⟨n1, j1, k1⟩ := u_known (n := 3) kk uin_G (kk _ iw_G)
  obtain ⟨n2, j2, k2⟩ := u_known (n := 4) kk uin_U (kk _ iw_U)
  obtain ⟨n3, j3, k3⟩ := u_known (n := 1) kk uin_Y (kk _ iw_Y)
  obtain ⟨n4, j4, k4⟩ := u_known (n := 2) kk uin_P (kk _ iw_P)
  obtain ⟨n5, j5, k5⟩ := u_known (n := 13) kk uin_R (kk _ iw_R)
  obtain ⟨c1, q1, p1, a1, b1, d1⟩ := Cond.arrayClass_spec (type := .int) (kk _ aw_i)
  obtain ⟨c2, q2, p2, a2, b2, d2⟩ := Cond.arrayClass_spec (type := .boolean) (kk _ aw_z)
  obtain ⟨c3, q3, p3, a3, b3, d3⟩ := Cond.arrayClass_spec (type := .long) (kk _ aw_j)
  obtain ⟨p4, c4, q4, e4, -, b4, d4, a4⟩ := Cond.arrayOver_spec (n := tm_GC) (hts _ aw_q)
  refine ⟨(fun c => [n0, n1, n2, n3, n4, n5].getD c 0, fun c => [j0, j1, j2, j3, j4, j5].getD c (fun _ => 0)), c1, c2, c3, c4, fun a => ⟨fun c q hq => ?_, fun k q hq => ?_⟩⟩
  · match c, hq with
    | 0, hq => cases hq; exact k0
    | 1, hq => cases hq; exact k1
    | 2, hq => cases hq; exact k2
    | 3, hq => cases hq; exact k3
    | 4, hq => cases hq; exact k4
    | 5, hq => cases hq; exact k5
    | c + 6, hq => cases hq
  · match k, hq with
    | 0, hq => cases hq; exact ⟨fun n z => ⟨fun k h => (by cases h), q1, b1, p1, d1⟩, a1⟩
    | 1, hq => cases hq; exact ⟨fun n z => ⟨fun k h => (by cases h), q2, b2, p2, d2⟩, a2⟩
    | 2, hq => cases hq; exact ⟨fun n z => ⟨fun k h => (by cases h), q3, b3, p3, d3⟩, a3⟩
    | 3, hq => cases hq; exact ⟨fun n z => ⟨fun k h => (by cases h), q4, b4, p4, d4⟩, q4, p4, b4, d4, e4, a4⟩
    | k + 4, hq => cases hq
theorem st_X {args : Array Value} {s : State} (hts : ∀ w ∈ lw_tbl, w.before args s = true) (hgv : (Jvm.Cond.and given_1 narrow_1).before args s = true) : tm_X s := by
  have hs := flat_of_before _ hgv
  have kk : ∀ w ∈ kW, w.before args s = true := fun w hw => hts w (List.mem_filter.mp hw).1
  obtain ⟨n0, j0, k0⟩ := u_known (n := 6) kk uin_N (kk _ iw_N)
  have hG : s.vm.findClass "GraphNamer" = some n0 := k0.2.1
  refine ⟨fun q hq => ?_, fun q hq => ?_, fun q hq => ?_⟩
  · simp only [tm_sts, List.mem_cons, List.not_mem_nil, or_false] at hq
    rcases hq with rfl | rfl
    · exact tm_st.of (hts _ sw_193) (hs _ (by decide +kernel))
    · exact tm_st.of (hts _ sw_195) (hs _ (by decide +kernel))
  · simp only [tm_strs, List.mem_cons, List.not_mem_nil, or_false] at hq
    rcases hq with rfl | rfl | rfl | rfl | rfl | rfl | rfl | rfl
    · have h1 := hts _ sw_207; obtain ⟨k, cf, i, a, -, -, -, -, -, hev⟩ := Cond.stringRef_spec hG h1; exact ⟨a, vk_R.of h1 hev⟩
    · have h1 := hts _ sw_246; obtain ⟨k, cf, i, a, -, -, -, -, -, hev⟩ := Cond.stringRef_spec hG h1; exact ⟨a, vk_R.of h1 hev⟩
    · have h1 := hts _ sw_262; obtain ⟨k, cf, i, a, -, -, -, -, -, hev⟩ := Cond.stringRef_spec hG h1; exact ⟨a, vk_R.of h1 hev⟩
    · have h1 := hts _ sw_287; obtain ⟨k, cf, i, a, -, -, -, -, -, hev⟩ := Cond.stringRef_spec hG h1; exact ⟨a, vk_R.of h1 hev⟩
    · have h1 := hts _ sw_299; obtain ⟨k, cf, i, a, -, -, -, -, -, hev⟩ := Cond.stringRef_spec hG h1; exact ⟨a, vk_R.of h1 hev⟩
    · have h1 := hts _ sw_304; obtain ⟨k, cf, i, a, -, -, -, -, -, hev⟩ := Cond.stringRef_spec hG h1; exact ⟨a, vk_R.of h1 hev⟩
    · have h1 := hts _ sw_330; obtain ⟨k, cf, i, a, -, -, -, -, -, hev⟩ := Cond.stringRef_spec hG h1; exact ⟨a, vk_R.of h1 hev⟩
    · have h1 := hts _ sw_494; obtain ⟨k, cf, i, a, -, -, -, -, -, hev⟩ := Cond.stringRef_spec hG h1; exact ⟨a, vk_R.of h1 hev⟩
  · simp only [tm_ncs, List.mem_cons, List.not_mem_nil, or_false] at hq
    rcases hq with rfl | rfl | rfl
    · exact va_Nc.of (hs _ (by decide +kernel))
    · exact va_Nc.of (hs _ (by decide +kernel))
    · exact va_Nc.of (hs _ (by decide +kernel))
end DE
