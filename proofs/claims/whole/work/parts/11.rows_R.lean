section WSR
variable {d u0 u : Nat} {Q : tm_O → tm_Hp → Prop} {S : List Nat} {n : Nat} {L : List (Option Value)} {st : List Value} {h : tm_Hp}
theorem dd_R_init_0 : decode (tm_cc M_R_init) 0 = .ok (.aload_n 0, 1) := by decide +kernel
theorem dd_R_init_1 : decode (tm_cc M_R_init) 1 = .ok (.invokespecial 1, 3) := by decide +kernel
theorem dd_R_init_4 : decode (tm_cc M_R_init) 4 = .ok (.aload_n 0, 1) := by decide +kernel
theorem dd_R_init_5 : decode (tm_cc M_R_init) 5 = .ok (.iconst 3, 1) := by decide +kernel
theorem dd_R_init_6 : decode (tm_cc M_R_init) 6 = .ok (.newarray .int, 2) := by decide +kernel
theorem dd_R_init_8 : decode (tm_cc M_R_init) 8 = .ok (.putfield 7, 3) := by decide +kernel
theorem dd_R_init_11 : decode (tm_cc M_R_init) 11 = .ok (.aload_n 0, 1) := by decide +kernel
theorem dd_R_init_12 : decode (tm_cc M_R_init) 12 = .ok (.bipush 21, 2) := by decide +kernel
theorem dd_R_init_14 : decode (tm_cc M_R_init) 14 = .ok (.newarray .int, 2) := by decide +kernel
theorem dd_R_init_16 : decode (tm_cc M_R_init) 16 = .ok (.putfield 13, 3) := by decide +kernel
theorem dd_R_init_19 : decode (tm_cc M_R_init) 19 = .ok (.aload_n 0, 1) := by decide +kernel
theorem dd_R_init_20 : decode (tm_cc M_R_init) 20 = .ok (.sipush 147, 3) := by decide +kernel
theorem dd_R_init_23 : decode (tm_cc M_R_init) 23 = .ok (.newarray .boolean, 2) := by decide +kernel
theorem dd_R_init_25 : decode (tm_cc M_R_init) 25 = .ok (.putfield 16, 3) := by decide +kernel
theorem dd_R_init_28 : decode (tm_cc M_R_init) 28 = .ok (.aload_n 0, 1) := by decide +kernel
theorem dd_R_init_29 : decode (tm_cc M_R_init) 29 = .ok (.bipush 7, 2) := by decide +kernel
theorem dd_R_init_31 : decode (tm_cc M_R_init) 31 = .ok (.newarray .int, 2) := by decide +kernel
theorem dd_R_init_33 : decode (tm_cc M_R_init) 33 = .ok (.putfield 20, 3) := by decide +kernel
theorem dd_R_init_36 : decode (tm_cc M_R_init) 36 = .ok (.aload_n 0, 1) := by decide +kernel
theorem dd_R_init_37 : decode (tm_cc M_R_init) 37 = .ok (.bipush 7, 2) := by decide +kernel
theorem dd_R_init_39 : decode (tm_cc M_R_init) 39 = .ok (.newarray .int, 2) := by decide +kernel
theorem dd_R_init_41 : decode (tm_cc M_R_init) 41 = .ok (.putfield 23, 3) := by decide +kernel
theorem dd_R_init_44 : decode (tm_cc M_R_init) 44 = .ok (.aload_n 0, 1) := by decide +kernel
theorem dd_R_init_45 : decode (tm_cc M_R_init) 45 = .ok (.bipush 7, 2) := by decide +kernel
theorem dd_R_init_47 : decode (tm_cc M_R_init) 47 = .ok (.newarray .int, 2) := by decide +kernel
theorem dd_R_init_49 : decode (tm_cc M_R_init) 49 = .ok (.putfield 26, 3) := by decide +kernel
theorem dd_R_init_52 : decode (tm_cc M_R_init) 52 = .ok (.aload_n 0, 1) := by decide +kernel
theorem dd_R_init_53 : decode (tm_cc M_R_init) 53 = .ok (.bipush 7, 2) := by decide +kernel
theorem dd_R_init_55 : decode (tm_cc M_R_init) 55 = .ok (.newarray .int, 2) := by decide +kernel
theorem dd_R_init_57 : decode (tm_cc M_R_init) 57 = .ok (.putfield 29, 3) := by decide +kernel
theorem dd_R_init_60 : decode (tm_cc M_R_init) 60 = .ok (.aload_n 0, 1) := by decide +kernel
theorem dd_R_init_61 : decode (tm_cc M_R_init) 61 = .ok (.bipush 7, 2) := by decide +kernel
theorem dd_R_init_63 : decode (tm_cc M_R_init) 63 = .ok (.newarray .int, 2) := by decide +kernel
theorem dd_R_init_65 : decode (tm_cc M_R_init) 65 = .ok (.putfield 32, 3) := by decide +kernel
theorem dd_R_init_68 : decode (tm_cc M_R_init) 68 = .ok (.aload_n 0, 1) := by decide +kernel
theorem dd_R_init_69 : decode (tm_cc M_R_init) 69 = .ok (.bipush 7, 2) := by decide +kernel
theorem dd_R_init_71 : decode (tm_cc M_R_init) 71 = .ok (.newarray .int, 2) := by decide +kernel
theorem dd_R_init_73 : decode (tm_cc M_R_init) 73 = .ok (.putfield 35, 3) := by decide +kernel
theorem dd_R_init_76 : decode (tm_cc M_R_init) 76 = .ok (.aload_n 0, 1) := by decide +kernel
theorem dd_R_init_77 : decode (tm_cc M_R_init) 77 = .ok (.bipush 49, 2) := by decide +kernel
theorem dd_R_init_79 : decode (tm_cc M_R_init) 79 = .ok (.newarray .boolean, 2) := by decide +kernel
theorem dd_R_init_81 : decode (tm_cc M_R_init) 81 = .ok (.putfield 38, 3) := by decide +kernel
theorem dd_R_init_84 : decode (tm_cc M_R_init) 84 = .ok (.return_, 1) := by decide +kernel
theorem ws_R_thrown_0 : tm_s M_R_thrown d u0 Q u S n 0 L st h = tm_gA L 0 (fun x => tm_w M_R_thrown d u0 Q u S n 1 L (.ref x :: st) h) := tm_r_aload_n (i := 0) (by decide +kernel) rfl rfl
theorem ws_R_thrown_1 : tm_s M_R_thrown d u0 Q u S n 1 L st h = tm_pA st (fun a r => tm_cO (h a) 5 (fun fs => tm_fv fs 0 (fun v => tm_w M_R_thrown d u0 Q u S n 4 L (v :: r) h))) := tm_r_getf (i := 41) (by decide +kernel) rfl (by decide +kernel)
theorem ws_R_thrown_4 : tm_s M_R_thrown d u0 Q u S n 4 L st h = tm_p1 st (fun x r => r = [] ∧ Q (.inl (some (.int x))) h) := tm_r_iret (by decide +kernel) rfl
theorem ws_R_refused_0 : tm_s M_R_refused d u0 Q u S n 0 L st h = tm_gA L 0 (fun x => tm_w M_R_refused d u0 Q u S n 1 L (.ref x :: st) h) := tm_r_aload_n (i := 0) (by decide +kernel) rfl rfl
theorem ws_R_refused_1 : tm_s M_R_refused d u0 Q u S n 1 L st h = tm_gI L 1 (fun x => tm_w M_R_refused d u0 Q u S n 2 L (.int x :: st) h) := tm_r_iload_n (i := 1) (by decide +kernel) rfl rfl
theorem ws_R_refused_2 : tm_s M_R_refused d u0 Q u S n 2 L st h = tm_p1 st (fun v r => tm_pA r (fun a r => tm_cO (h a) 5 (fun fs => 0 < fs.length ∧ tm_w M_R_refused d u0 Q u S n 5 L r (tm_up h a (tm_o 5 (fs.set 0 (.int v))))))) := tm_r_puti (i := 41) (by decide +kernel) rfl (by decide +kernel)
theorem ws_R_refused_5 : tm_s M_R_refused d u0 Q u S n 5 L st h = tm_gI L 1 (fun x => tm_w M_R_refused d u0 Q u S n 6 L (.int x :: st) h) := tm_r_iload_n (i := 1) (by decide +kernel) rfl rfl
theorem ws_R_refused_6 : tm_s M_R_refused d u0 Q u S n 6 L st h = tm_p1 st (fun x r => (x ≤ 0 → tm_w M_R_refused d u0 Q u S n 13 L r h) ∧ (¬ x ≤ 0 → tm_w M_R_refused d u0 Q u S n 9 L r h)) := tm_r_ifle (off := 7) (by decide +kernel) rfl rfl
theorem ws_R_refused_9 : tm_s M_R_refused d u0 Q u S n 9 L st h = tm_w M_R_refused d u0 Q u S n 10 L (.int 1 :: st) h := tm_r_iconst (k := 1) (by decide +kernel) rfl (by decide)
theorem ws_R_refused_10 : tm_s M_R_refused d u0 Q u S n 10 L st h = tm_w M_R_refused d u0 Q u S n 14 L st h := tm_r_goto (off := 4) (by decide +kernel) rfl
theorem ws_R_refused_13 : tm_s M_R_refused d u0 Q u S n 13 L st h = tm_w M_R_refused d u0 Q u S n 14 L (.int 0 :: st) h := tm_r_iconst (k := 0) (by decide +kernel) rfl (by decide)
theorem ws_R_refused_14 : tm_s M_R_refused d u0 Q u S n 14 L st h = tm_p1 st (fun x r => r = [] ∧ (x = 0 ∨ x = 1) ∧ Q (.inl (some (.int x))) h) := tm_r_zret (by decide +kernel) rfl
theorem ws_R_noGraph_0 : tm_s M_R_noGraph d u0 Q u S n 0 L st h = tm_gI L 0 (fun x => tm_w M_R_noGraph d u0 Q u S n 1 L (.int x :: st) h) := tm_r_iload_n (i := 0) (by decide +kernel) rfl rfl
theorem ws_R_noGraph_1 : tm_s M_R_noGraph d u0 Q u S n 1 L st h = tm_p1 st (fun x r => (x < 0 → tm_w M_R_noGraph d u0 Q u S n 9 L r h) ∧ (¬ x < 0 → tm_w M_R_noGraph d u0 Q u S n 4 L r h)) := tm_r_iflt (off := 8) (by decide +kernel) rfl rfl
theorem ws_R_noGraph_4 : tm_s M_R_noGraph d u0 Q u S n 4 L st h = tm_gI L 0 (fun x => tm_w M_R_noGraph d u0 Q u S n 5 L (.int x :: st) h) := tm_r_iload_n (i := 0) (by decide +kernel) rfl rfl
theorem ws_R_noGraph_5 : tm_s M_R_noGraph d u0 Q u S n 5 L st h = tm_w M_R_noGraph d u0 Q u S n 6 L (.int 2 :: st) h := tm_r_iconst (k := 2) (by decide +kernel) rfl (by decide)
theorem ws_R_noGraph_6 : tm_s M_R_noGraph d u0 Q u S n 6 L st h = tm_p1 st (fun y r => tm_p1 r (fun x r => (x ≤ y → tm_w M_R_noGraph d u0 Q u S n 13 L r h) ∧ (¬ x ≤ y → tm_w M_R_noGraph d u0 Q u S n 9 L r h))) := tm_r_icle (off := 7) (by decide +kernel) rfl rfl
theorem ws_R_noGraph_9 : tm_s M_R_noGraph d u0 Q u S n 9 L st h = tm_w M_R_noGraph d u0 Q u S n 10 L (.int 1 :: st) h := tm_r_iconst (k := 1) (by decide +kernel) rfl (by decide)
theorem ws_R_noGraph_10 : tm_s M_R_noGraph d u0 Q u S n 10 L st h = tm_w M_R_noGraph d u0 Q u S n 14 L st h := tm_r_goto (off := 4) (by decide +kernel) rfl
theorem ws_R_noGraph_13 : tm_s M_R_noGraph d u0 Q u S n 13 L st h = tm_w M_R_noGraph d u0 Q u S n 14 L (.int 0 :: st) h := tm_r_iconst (k := 0) (by decide +kernel) rfl (by decide)
theorem ws_R_noGraph_14 : tm_s M_R_noGraph d u0 Q u S n 14 L st h = tm_p1 st (fun x r => r = [] ∧ (x = 0 ∨ x = 1) ∧ Q (.inl (some (.int x))) h) := tm_r_zret (by decide +kernel) rfl
theorem ws_R_noVertex_0 : tm_s M_R_noVertex d u0 Q u S n 0 L st h = tm_gI L 1 (fun x => tm_w M_R_noVertex d u0 Q u S n 1 L (.int x :: st) h) := tm_r_iload_n (i := 1) (by decide +kernel) rfl rfl
theorem dd_R_noVertex_1 : decode (tm_cc M_R_noVertex) 1 = .ok (.invokestatic 45, 3) := by decide +kernel
theorem ws_R_noVertex_1 : tm_s M_R_noVertex d u0 Q u S n 1 L st h = tm_T M_R_noVertex d u0 Q u 1 L st h := tm_r_invs dd_R_noVertex_1
theorem ws_R_noVertex_4 : tm_s M_R_noVertex d u0 Q u S n 4 L st h = tm_p1 st (fun x r => (¬ x = 0 → tm_w M_R_noVertex d u0 Q u S n 21 L r h) ∧ (¬ ¬ x = 0 → tm_w M_R_noVertex d u0 Q u S n 7 L r h)) := tm_r_ifne (off := 17) (by decide +kernel) rfl rfl
theorem ws_R_noVertex_7 : tm_s M_R_noVertex d u0 Q u S n 7 L st h = tm_gI L 2 (fun x => tm_w M_R_noVertex d u0 Q u S n 8 L (.int x :: st) h) := tm_r_iload_n (i := 2) (by decide +kernel) rfl rfl
theorem ws_R_noVertex_8 : tm_s M_R_noVertex d u0 Q u S n 8 L st h = tm_p1 st (fun x r => (x < 0 → tm_w M_R_noVertex d u0 Q u S n 21 L r h) ∧ (¬ x < 0 → tm_w M_R_noVertex d u0 Q u S n 11 L r h)) := tm_r_iflt (off := 13) (by decide +kernel) rfl rfl
theorem ws_R_noVertex_11 : tm_s M_R_noVertex d u0 Q u S n 11 L st h = tm_gI L 2 (fun x => tm_w M_R_noVertex d u0 Q u S n 12 L (.int x :: st) h) := tm_r_iload_n (i := 2) (by decide +kernel) rfl rfl
theorem ws_R_noVertex_12 : tm_s M_R_noVertex d u0 Q u S n 12 L st h = tm_gA L 0 (fun x => tm_w M_R_noVertex d u0 Q u S n 13 L (.ref x :: st) h) := tm_r_aload_n (i := 0) (by decide +kernel) rfl rfl
theorem ws_R_noVertex_13 : tm_s M_R_noVertex d u0 Q u S n 13 L st h = tm_pA st (fun a r => tm_cO (h a) 5 (fun fs => tm_fv fs 1 (fun v => tm_w M_R_noVertex d u0 Q u S n 16 L (v :: r) h))) := tm_r_getf (i := 7) (by decide +kernel) rfl (by decide +kernel)
theorem ws_R_noVertex_16 : tm_s M_R_noVertex d u0 Q u S n 16 L st h = tm_gI L 1 (fun x => tm_w M_R_noVertex d u0 Q u S n 17 L (.int x :: st) h) := tm_r_iload_n (i := 1) (by decide +kernel) rfl rfl
theorem ws_R_noVertex_17 : tm_s M_R_noVertex d u0 Q u S n 17 L st h = tm_p1 st (fun i r => tm_pA r (fun a r => tm_cI (h a) (fun k f => vp_in i k ∧ tm_w M_R_noVertex d u0 Q u S n 18 L (.int (f i.toNatClampNeg) :: r) h))) := tm_r_iaload (by decide +kernel) rfl
theorem ws_R_noVertex_18 : tm_s M_R_noVertex d u0 Q u S n 18 L st h = tm_p1 st (fun y r => tm_p1 r (fun x r => (x < y → tm_w M_R_noVertex d u0 Q u S n 25 L r h) ∧ (¬ x < y → tm_w M_R_noVertex d u0 Q u S n 21 L r h))) := tm_r_iclt (off := 7) (by decide +kernel) rfl rfl
theorem ws_R_noVertex_21 : tm_s M_R_noVertex d u0 Q u S n 21 L st h = tm_w M_R_noVertex d u0 Q u S n 22 L (.int 1 :: st) h := tm_r_iconst (k := 1) (by decide +kernel) rfl (by decide)
theorem ws_R_noVertex_22 : tm_s M_R_noVertex d u0 Q u S n 22 L st h = tm_w M_R_noVertex d u0 Q u S n 26 L st h := tm_r_goto (off := 4) (by decide +kernel) rfl
theorem ws_R_noVertex_25 : tm_s M_R_noVertex d u0 Q u S n 25 L st h = tm_w M_R_noVertex d u0 Q u S n 26 L (.int 0 :: st) h := tm_r_iconst (k := 0) (by decide +kernel) rfl (by decide)
theorem ws_R_noVertex_26 : tm_s M_R_noVertex d u0 Q u S n 26 L st h = tm_p1 st (fun x r => r = [] ∧ (x = 0 ∨ x = 1) ∧ Q (.inl (some (.int x))) h) := tm_r_zret (by decide +kernel) rfl
theorem ws_R_strange_0 : tm_s M_R_strange d u0 Q u S n 0 L st h = tm_gI L 1 (fun x => tm_w M_R_strange d u0 Q u S n 1 L (.int x :: st) h) := tm_r_iload_n (i := 1) (by decide +kernel) rfl rfl
theorem dd_R_strange_1 : decode (tm_cc M_R_strange) 1 = .ok (.invokestatic 45, 3) := by decide +kernel
theorem ws_R_strange_1 : tm_s M_R_strange d u0 Q u S n 1 L st h = tm_T M_R_strange d u0 Q u 1 L st h := tm_r_invs dd_R_strange_1
theorem ws_R_strange_4 : tm_s M_R_strange d u0 Q u S n 4 L st h = tm_p1 st (fun x r => (¬ x = 0 → tm_w M_R_strange d u0 Q u S n 23 L r h) ∧ (¬ ¬ x = 0 → tm_w M_R_strange d u0 Q u S n 7 L r h)) := tm_r_ifne (off := 19) (by decide +kernel) rfl rfl
theorem ws_R_strange_7 : tm_s M_R_strange d u0 Q u S n 7 L st h = tm_gI L 2 (fun x => tm_w M_R_strange d u0 Q u S n 8 L (.int x :: st) h) := tm_r_iload_n (i := 2) (by decide +kernel) rfl rfl
theorem ws_R_strange_8 : tm_s M_R_strange d u0 Q u S n 8 L st h = tm_p1 st (fun x r => (x < 0 → tm_w M_R_strange d u0 Q u S n 23 L r h) ∧ (¬ x < 0 → tm_w M_R_strange d u0 Q u S n 11 L r h)) := tm_r_iflt (off := 15) (by decide +kernel) rfl rfl
theorem ws_R_strange_11 : tm_s M_R_strange d u0 Q u S n 11 L st h = tm_gI L 2 (fun x => tm_w M_R_strange d u0 Q u S n 12 L (.int x :: st) h) := tm_r_iload_n (i := 2) (by decide +kernel) rfl rfl
theorem ws_R_strange_12 : tm_s M_R_strange d u0 Q u S n 12 L st h = tm_w M_R_strange d u0 Q u S n 13 L (.int 1 :: st) h := tm_r_iconst (k := 1) (by decide +kernel) rfl (by decide)
theorem ws_R_strange_13 : tm_s M_R_strange d u0 Q u S n 13 L st h = tm_gA L 0 (fun x => tm_w M_R_strange d u0 Q u S n 14 L (.ref x :: st) h) := tm_r_aload_n (i := 0) (by decide +kernel) rfl rfl
theorem ws_R_strange_14 : tm_s M_R_strange d u0 Q u S n 14 L st h = tm_pA st (fun a r => tm_cO (h a) 5 (fun fs => tm_fv fs 1 (fun v => tm_w M_R_strange d u0 Q u S n 17 L (v :: r) h))) := tm_r_getf (i := 7) (by decide +kernel) rfl (by decide +kernel)
theorem ws_R_strange_17 : tm_s M_R_strange d u0 Q u S n 17 L st h = tm_gI L 1 (fun x => tm_w M_R_strange d u0 Q u S n 18 L (.int x :: st) h) := tm_r_iload_n (i := 1) (by decide +kernel) rfl rfl
theorem ws_R_strange_18 : tm_s M_R_strange d u0 Q u S n 18 L st h = tm_p1 st (fun i r => tm_pA r (fun a r => tm_cI (h a) (fun k f => vp_in i k ∧ tm_w M_R_strange d u0 Q u S n 19 L (.int (f i.toNatClampNeg) :: r) h))) := tm_r_iaload (by decide +kernel) rfl
theorem ws_R_strange_19 : tm_s M_R_strange d u0 Q u S n 19 L st h = tm_p1 st (fun y r => tm_p1 r (fun x r => tm_w M_R_strange d u0 Q u S n 20 L (.int (x <<< (y &&& 31)) :: r) h)) := tm_r_ishl (by decide +kernel) rfl
theorem ws_R_strange_20 : tm_s M_R_strange d u0 Q u S n 20 L st h = tm_p1 st (fun y r => tm_p1 r (fun x r => (x < y → tm_w M_R_strange d u0 Q u S n 27 L r h) ∧ (¬ x < y → tm_w M_R_strange d u0 Q u S n 23 L r h))) := tm_r_iclt (off := 7) (by decide +kernel) rfl rfl
theorem ws_R_strange_23 : tm_s M_R_strange d u0 Q u S n 23 L st h = tm_w M_R_strange d u0 Q u S n 24 L (.int 1 :: st) h := tm_r_iconst (k := 1) (by decide +kernel) rfl (by decide)
theorem ws_R_strange_24 : tm_s M_R_strange d u0 Q u S n 24 L st h = tm_w M_R_strange d u0 Q u S n 28 L st h := tm_r_goto (off := 4) (by decide +kernel) rfl
theorem ws_R_strange_27 : tm_s M_R_strange d u0 Q u S n 27 L st h = tm_w M_R_strange d u0 Q u S n 28 L (.int 0 :: st) h := tm_r_iconst (k := 0) (by decide +kernel) rfl (by decide)
theorem ws_R_strange_28 : tm_s M_R_strange d u0 Q u S n 28 L st h = tm_p1 st (fun x r => r = [] ∧ (x = 0 ∨ x = 1) ∧ Q (.inl (some (.int x))) h) := tm_r_zret (by decide +kernel) rfl
theorem ws_R_colourOf_0 : tm_s M_R_colourOf d u0 Q u S n 0 L st h = tm_gA L 0 (fun x => tm_w M_R_colourOf d u0 Q u S n 1 L (.ref x :: st) h) := tm_r_aload_n (i := 0) (by decide +kernel) rfl rfl
theorem ws_R_colourOf_1 : tm_s M_R_colourOf d u0 Q u S n 1 L st h = tm_pA st (fun a r => tm_cO (h a) 5 (fun fs => tm_fv fs 2 (fun v => tm_w M_R_colourOf d u0 Q u S n 4 L (v :: r) h))) := tm_r_getf (i := 13) (by decide +kernel) rfl (by decide +kernel)
theorem ws_R_colourOf_4 : tm_s M_R_colourOf d u0 Q u S n 4 L st h = tm_w M_R_colourOf d u0 Q u S n 6 L (.int 7 :: st) h := tm_r_bipush (k := 7) (by decide +kernel) rfl (by decide)
theorem ws_R_colourOf_6 : tm_s M_R_colourOf d u0 Q u S n 6 L st h = tm_gI L 1 (fun x => tm_w M_R_colourOf d u0 Q u S n 7 L (.int x :: st) h) := tm_r_iload_n (i := 1) (by decide +kernel) rfl rfl
theorem ws_R_colourOf_7 : tm_s M_R_colourOf d u0 Q u S n 7 L st h = tm_p1 st (fun y r => tm_p1 r (fun x r => tm_w M_R_colourOf d u0 Q u S n 8 L (.int (x * y) :: r) h)) := tm_r_imul (by decide +kernel) rfl
theorem ws_R_colourOf_8 : tm_s M_R_colourOf d u0 Q u S n 8 L st h = tm_gI L 2 (fun x => tm_w M_R_colourOf d u0 Q u S n 9 L (.int x :: st) h) := tm_r_iload_n (i := 2) (by decide +kernel) rfl rfl
theorem ws_R_colourOf_9 : tm_s M_R_colourOf d u0 Q u S n 9 L st h = tm_p1 st (fun y r => tm_p1 r (fun x r => tm_w M_R_colourOf d u0 Q u S n 10 L (.int (x + y) :: r) h)) := tm_r_iadd (by decide +kernel) rfl
theorem ws_R_colourOf_10 : tm_s M_R_colourOf d u0 Q u S n 10 L st h = tm_p1 st (fun i r => tm_pA r (fun a r => tm_cI (h a) (fun k f => vp_in i k ∧ tm_w M_R_colourOf d u0 Q u S n 11 L (.int (f i.toNatClampNeg) :: r) h))) := tm_r_iaload (by decide +kernel) rfl
theorem ws_R_colourOf_11 : tm_s M_R_colourOf d u0 Q u S n 11 L st h = tm_p1 st (fun x r => r = [] ∧ Q (.inl (some (.int x))) h) := tm_r_iret (by decide +kernel) rfl
theorem ws_R_isEdge_0 : tm_s M_R_isEdge d u0 Q u S n 0 L st h = tm_gA L 0 (fun x => tm_w M_R_isEdge d u0 Q u S n 1 L (.ref x :: st) h) := tm_r_aload_n (i := 0) (by decide +kernel) rfl rfl
theorem ws_R_isEdge_1 : tm_s M_R_isEdge d u0 Q u S n 1 L st h = tm_pA st (fun a r => tm_cO (h a) 5 (fun fs => tm_fv fs 3 (fun v => tm_w M_R_isEdge d u0 Q u S n 4 L (v :: r) h))) := tm_r_getf (i := 16) (by decide +kernel) rfl (by decide +kernel)
theorem ws_R_isEdge_4 : tm_s M_R_isEdge d u0 Q u S n 4 L st h = tm_w M_R_isEdge d u0 Q u S n 6 L (.int 49 :: st) h := tm_r_bipush (k := 49) (by decide +kernel) rfl (by decide)
theorem ws_R_isEdge_6 : tm_s M_R_isEdge d u0 Q u S n 6 L st h = tm_gI L 1 (fun x => tm_w M_R_isEdge d u0 Q u S n 7 L (.int x :: st) h) := tm_r_iload_n (i := 1) (by decide +kernel) rfl rfl
theorem ws_R_isEdge_7 : tm_s M_R_isEdge d u0 Q u S n 7 L st h = tm_p1 st (fun y r => tm_p1 r (fun x r => tm_w M_R_isEdge d u0 Q u S n 8 L (.int (x * y) :: r) h)) := tm_r_imul (by decide +kernel) rfl
theorem ws_R_isEdge_8 : tm_s M_R_isEdge d u0 Q u S n 8 L st h = tm_w M_R_isEdge d u0 Q u S n 10 L (.int 7 :: st) h := tm_r_bipush (k := 7) (by decide +kernel) rfl (by decide)
theorem ws_R_isEdge_10 : tm_s M_R_isEdge d u0 Q u S n 10 L st h = tm_gI L 2 (fun x => tm_w M_R_isEdge d u0 Q u S n 11 L (.int x :: st) h) := tm_r_iload_n (i := 2) (by decide +kernel) rfl rfl
theorem ws_R_isEdge_11 : tm_s M_R_isEdge d u0 Q u S n 11 L st h = tm_p1 st (fun y r => tm_p1 r (fun x r => tm_w M_R_isEdge d u0 Q u S n 12 L (.int (x * y) :: r) h)) := tm_r_imul (by decide +kernel) rfl
theorem ws_R_isEdge_12 : tm_s M_R_isEdge d u0 Q u S n 12 L st h = tm_p1 st (fun y r => tm_p1 r (fun x r => tm_w M_R_isEdge d u0 Q u S n 13 L (.int (x + y) :: r) h)) := tm_r_iadd (by decide +kernel) rfl
theorem ws_R_isEdge_13 : tm_s M_R_isEdge d u0 Q u S n 13 L st h = tm_gI L 3 (fun x => tm_w M_R_isEdge d u0 Q u S n 14 L (.int x :: st) h) := tm_r_iload_n (i := 3) (by decide +kernel) rfl rfl
theorem ws_R_isEdge_14 : tm_s M_R_isEdge d u0 Q u S n 14 L st h = tm_p1 st (fun y r => tm_p1 r (fun x r => tm_w M_R_isEdge d u0 Q u S n 15 L (.int (x + y) :: r) h)) := tm_r_iadd (by decide +kernel) rfl
theorem ws_R_isEdge_15 : tm_s M_R_isEdge d u0 Q u S n 15 L st h = tm_p1 st (fun i r => tm_pA r (fun a r => tm_cZ (h a) (fun k f => vp_in i k ∧ tm_w M_R_isEdge d u0 Q u S n 16 L (.int (f i.toNatClampNeg) :: r) h))) := tm_r_baload (by decide +kernel) rfl
theorem ws_R_isEdge_16 : tm_s M_R_isEdge d u0 Q u S n 16 L st h = tm_p1 st (fun x r => r = [] ∧ (x = 0 ∨ x = 1) ∧ Q (.inl (some (.int x))) h) := tm_r_zret (by decide +kernel) rfl
theorem ws_R_set_0 : tm_s M_R_set d u0 Q u S n 0 L st h = tm_gA L 0 (fun x => tm_w M_R_set d u0 Q u S n 1 L (.ref x :: st) h) := tm_r_aload_n (i := 0) (by decide +kernel) rfl rfl
theorem ws_R_set_1 : tm_s M_R_set d u0 Q u S n 1 L st h = tm_pA st (fun a r => tm_cO (h a) 5 (fun fs => tm_fv fs 3 (fun v => tm_w M_R_set d u0 Q u S n 4 L (v :: r) h))) := tm_r_getf (i := 16) (by decide +kernel) rfl (by decide +kernel)
theorem ws_R_set_4 : tm_s M_R_set d u0 Q u S n 4 L st h = tm_w M_R_set d u0 Q u S n 6 L (.int 49 :: st) h := tm_r_bipush (k := 49) (by decide +kernel) rfl (by decide)
theorem ws_R_set_6 : tm_s M_R_set d u0 Q u S n 6 L st h = tm_gI L 1 (fun x => tm_w M_R_set d u0 Q u S n 7 L (.int x :: st) h) := tm_r_iload_n (i := 1) (by decide +kernel) rfl rfl
theorem ws_R_set_7 : tm_s M_R_set d u0 Q u S n 7 L st h = tm_p1 st (fun y r => tm_p1 r (fun x r => tm_w M_R_set d u0 Q u S n 8 L (.int (x * y) :: r) h)) := tm_r_imul (by decide +kernel) rfl
theorem ws_R_set_8 : tm_s M_R_set d u0 Q u S n 8 L st h = tm_w M_R_set d u0 Q u S n 10 L (.int 7 :: st) h := tm_r_bipush (k := 7) (by decide +kernel) rfl (by decide)
theorem ws_R_set_10 : tm_s M_R_set d u0 Q u S n 10 L st h = tm_gI L 2 (fun x => tm_w M_R_set d u0 Q u S n 11 L (.int x :: st) h) := tm_r_iload_n (i := 2) (by decide +kernel) rfl rfl
theorem ws_R_set_11 : tm_s M_R_set d u0 Q u S n 11 L st h = tm_p1 st (fun y r => tm_p1 r (fun x r => tm_w M_R_set d u0 Q u S n 12 L (.int (x * y) :: r) h)) := tm_r_imul (by decide +kernel) rfl
theorem ws_R_set_12 : tm_s M_R_set d u0 Q u S n 12 L st h = tm_p1 st (fun y r => tm_p1 r (fun x r => tm_w M_R_set d u0 Q u S n 13 L (.int (x + y) :: r) h)) := tm_r_iadd (by decide +kernel) rfl
theorem ws_R_set_13 : tm_s M_R_set d u0 Q u S n 13 L st h = tm_gI L 3 (fun x => tm_w M_R_set d u0 Q u S n 14 L (.int x :: st) h) := tm_r_iload_n (i := 3) (by decide +kernel) rfl rfl
theorem ws_R_set_14 : tm_s M_R_set d u0 Q u S n 14 L st h = tm_p1 st (fun y r => tm_p1 r (fun x r => tm_w M_R_set d u0 Q u S n 15 L (.int (x + y) :: r) h)) := tm_r_iadd (by decide +kernel) rfl
theorem ws_R_set_15 : tm_s M_R_set d u0 Q u S n 15 L st h = tm_gI L 4 (fun x => tm_w M_R_set d u0 Q u S n 17 L (.int x :: st) h) := tm_r_iload (j := 4) (by decide +kernel) rfl
theorem ws_R_set_17 : tm_s M_R_set d u0 Q u S n 17 L st h = tm_p1 st (fun x r => tm_p1 r (fun i r => tm_pA r (fun a r => tm_cZ (h a) (fun k f => vp_in i k ∧ tm_w M_R_set d u0 Q u S n 18 L r (tm_up h a (tm_z k (upd f i.toNatClampNeg (vp_nar .boolean x)))))))) := tm_r_bastore (by decide +kernel) rfl
theorem ws_R_set_18 : tm_s M_R_set d u0 Q u S n 18 L st h = tm_gA L 0 (fun x => tm_w M_R_set d u0 Q u S n 19 L (.ref x :: st) h) := tm_r_aload_n (i := 0) (by decide +kernel) rfl rfl
theorem ws_R_set_19 : tm_s M_R_set d u0 Q u S n 19 L st h = tm_pA st (fun a r => tm_cO (h a) 5 (fun fs => tm_fv fs 3 (fun v => tm_w M_R_set d u0 Q u S n 22 L (v :: r) h))) := tm_r_getf (i := 16) (by decide +kernel) rfl (by decide +kernel)
theorem ws_R_set_22 : tm_s M_R_set d u0 Q u S n 22 L st h = tm_w M_R_set d u0 Q u S n 24 L (.int 49 :: st) h := tm_r_bipush (k := 49) (by decide +kernel) rfl (by decide)
theorem ws_R_set_24 : tm_s M_R_set d u0 Q u S n 24 L st h = tm_gI L 1 (fun x => tm_w M_R_set d u0 Q u S n 25 L (.int x :: st) h) := tm_r_iload_n (i := 1) (by decide +kernel) rfl rfl
theorem ws_R_set_25 : tm_s M_R_set d u0 Q u S n 25 L st h = tm_p1 st (fun y r => tm_p1 r (fun x r => tm_w M_R_set d u0 Q u S n 26 L (.int (x * y) :: r) h)) := tm_r_imul (by decide +kernel) rfl
theorem ws_R_set_26 : tm_s M_R_set d u0 Q u S n 26 L st h = tm_w M_R_set d u0 Q u S n 28 L (.int 7 :: st) h := tm_r_bipush (k := 7) (by decide +kernel) rfl (by decide)
theorem ws_R_set_28 : tm_s M_R_set d u0 Q u S n 28 L st h = tm_gI L 3 (fun x => tm_w M_R_set d u0 Q u S n 29 L (.int x :: st) h) := tm_r_iload_n (i := 3) (by decide +kernel) rfl rfl
theorem ws_R_set_29 : tm_s M_R_set d u0 Q u S n 29 L st h = tm_p1 st (fun y r => tm_p1 r (fun x r => tm_w M_R_set d u0 Q u S n 30 L (.int (x * y) :: r) h)) := tm_r_imul (by decide +kernel) rfl
theorem ws_R_set_30 : tm_s M_R_set d u0 Q u S n 30 L st h = tm_p1 st (fun y r => tm_p1 r (fun x r => tm_w M_R_set d u0 Q u S n 31 L (.int (x + y) :: r) h)) := tm_r_iadd (by decide +kernel) rfl
theorem ws_R_set_31 : tm_s M_R_set d u0 Q u S n 31 L st h = tm_gI L 2 (fun x => tm_w M_R_set d u0 Q u S n 32 L (.int x :: st) h) := tm_r_iload_n (i := 2) (by decide +kernel) rfl rfl
theorem ws_R_set_32 : tm_s M_R_set d u0 Q u S n 32 L st h = tm_p1 st (fun y r => tm_p1 r (fun x r => tm_w M_R_set d u0 Q u S n 33 L (.int (x + y) :: r) h)) := tm_r_iadd (by decide +kernel) rfl
theorem ws_R_set_33 : tm_s M_R_set d u0 Q u S n 33 L st h = tm_gI L 4 (fun x => tm_w M_R_set d u0 Q u S n 35 L (.int x :: st) h) := tm_r_iload (j := 4) (by decide +kernel) rfl
theorem ws_R_set_35 : tm_s M_R_set d u0 Q u S n 35 L st h = tm_p1 st (fun x r => tm_p1 r (fun i r => tm_pA r (fun a r => tm_cZ (h a) (fun k f => vp_in i k ∧ tm_w M_R_set d u0 Q u S n 36 L r (tm_up h a (tm_z k (upd f i.toNatClampNeg (vp_nar .boolean x)))))))) := tm_r_bastore (by decide +kernel) rfl
theorem ws_R_set_36 : tm_s M_R_set d u0 Q u S n 36 L st h = (st = [] ∧ Q (.inl none) h) := tm_r_vret (by decide +kernel) rfl
theorem ws_R_edges_0 : tm_s M_R_edges d u0 Q u S n 0 L st h = tm_w M_R_edges d u0 Q u S n 1 L (.int 0 :: st) h := tm_r_iconst (k := 0) (by decide +kernel) rfl (by decide)
theorem ws_R_edges_1 : tm_s M_R_edges d u0 Q u S n 1 L st h = tm_p1 st (fun x r => tm_w M_R_edges d u0 Q u S n 2 (L.set 2 (some (.int x))) r h) := tm_r_istore_n (i := 2) (by decide +kernel) rfl rfl (by decide)
theorem ws_R_edges_2 : tm_s M_R_edges d u0 Q u S n 2 L st h = tm_w M_R_edges d u0 Q u S n 3 L (.int 0 :: st) h := tm_r_iconst (k := 0) (by decide +kernel) rfl (by decide)
theorem ws_R_edges_3 : tm_s M_R_edges d u0 Q u S n 3 L st h = tm_p1 st (fun x r => tm_w M_R_edges d u0 Q u S n 4 (L.set 3 (some (.int x))) r h) := tm_r_istore_n (i := 3) (by decide +kernel) rfl rfl (by decide)
theorem ws_R_edges_4 : tm_s M_R_edges d u0 Q u S n 4 L st h = tm_gI L 3 (fun x => tm_w M_R_edges d u0 Q u S n 5 L (.int x :: st) h) := tm_r_iload_n (i := 3) (by decide +kernel) rfl rfl
theorem ws_R_edges_5 : tm_s M_R_edges d u0 Q u S n 5 L st h = tm_gA L 0 (fun x => tm_w M_R_edges d u0 Q u S n 6 L (.ref x :: st) h) := tm_r_aload_n (i := 0) (by decide +kernel) rfl rfl
theorem ws_R_edges_6 : tm_s M_R_edges d u0 Q u S n 6 L st h = tm_pA st (fun a r => tm_cO (h a) 5 (fun fs => tm_fv fs 1 (fun v => tm_w M_R_edges d u0 Q u S n 9 L (v :: r) h))) := tm_r_getf (i := 7) (by decide +kernel) rfl (by decide +kernel)
theorem ws_R_edges_9 : tm_s M_R_edges d u0 Q u S n 9 L st h = tm_gI L 1 (fun x => tm_w M_R_edges d u0 Q u S n 10 L (.int x :: st) h) := tm_r_iload_n (i := 1) (by decide +kernel) rfl rfl
theorem ws_R_edges_10 : tm_s M_R_edges d u0 Q u S n 10 L st h = tm_p1 st (fun i r => tm_pA r (fun a r => tm_cI (h a) (fun k f => vp_in i k ∧ tm_w M_R_edges d u0 Q u S n 11 L (.int (f i.toNatClampNeg) :: r) h))) := tm_r_iaload (by decide +kernel) rfl
theorem ws_R_edges_11 : tm_s M_R_edges d u0 Q u S n 11 L st h = tm_p1 st (fun y r => tm_p1 r (fun x r => (y ≤ x → tm_w M_R_edges d u0 Q u S n 54 L r h) ∧ (¬ y ≤ x → tm_w M_R_edges d u0 Q u S n 14 L r h))) := tm_r_icge (off := 43) (by decide +kernel) rfl rfl
theorem ws_R_edges_14 : tm_s M_R_edges d u0 Q u S n 14 L st h = tm_w M_R_edges d u0 Q u S n 15 L (.int 0 :: st) h := tm_r_iconst (k := 0) (by decide +kernel) rfl (by decide)
theorem ws_R_edges_15 : tm_s M_R_edges d u0 Q u S n 15 L st h = tm_p1 st (fun x r => tm_w M_R_edges d u0 Q u S n 17 (L.set 4 (some (.int x))) r h) := tm_r_istore (j := 4) (by decide +kernel) rfl (by decide)
theorem ws_R_edges_17 : tm_s M_R_edges d u0 Q u S n 17 L st h = tm_gI L 4 (fun x => tm_w M_R_edges d u0 Q u S n 19 L (.int x :: st) h) := tm_r_iload (j := 4) (by decide +kernel) rfl
theorem ws_R_edges_19 : tm_s M_R_edges d u0 Q u S n 19 L st h = tm_gI L 3 (fun x => tm_w M_R_edges d u0 Q u S n 20 L (.int x :: st) h) := tm_r_iload_n (i := 3) (by decide +kernel) rfl rfl
theorem ws_R_edges_20 : tm_s M_R_edges d u0 Q u S n 20 L st h = tm_p1 st (fun y r => tm_p1 r (fun x r => (y ≤ x → tm_w M_R_edges d u0 Q u S n 48 L r h) ∧ (¬ y ≤ x → tm_w M_R_edges d u0 Q u S n 23 L r h))) := tm_r_icge (off := 28) (by decide +kernel) rfl rfl
theorem ws_R_edges_23 : tm_s M_R_edges d u0 Q u S n 23 L st h = tm_gA L 0 (fun x => tm_w M_R_edges d u0 Q u S n 24 L (.ref x :: st) h) := tm_r_aload_n (i := 0) (by decide +kernel) rfl rfl
theorem ws_R_edges_24 : tm_s M_R_edges d u0 Q u S n 24 L st h = tm_gI L 1 (fun x => tm_w M_R_edges d u0 Q u S n 25 L (.int x :: st) h) := tm_r_iload_n (i := 1) (by decide +kernel) rfl rfl
theorem ws_R_edges_25 : tm_s M_R_edges d u0 Q u S n 25 L st h = tm_gI L 3 (fun x => tm_w M_R_edges d u0 Q u S n 26 L (.int x :: st) h) := tm_r_iload_n (i := 3) (by decide +kernel) rfl rfl
theorem ws_R_edges_26 : tm_s M_R_edges d u0 Q u S n 26 L st h = tm_gI L 4 (fun x => tm_w M_R_edges d u0 Q u S n 28 L (.int x :: st) h) := tm_r_iload (j := 4) (by decide +kernel) rfl
theorem dd_R_edges_28 : decode (tm_cc M_R_edges) 28 = .ok (.invokevirtual 49, 3) := by decide +kernel
theorem ws_R_edges_28 : tm_s M_R_edges d u0 Q u S n 28 L st h = tm_T M_R_edges d u0 Q u 28 L st h := tm_r_invv dd_R_edges_28
theorem ws_R_edges_31 : tm_s M_R_edges d u0 Q u S n 31 L st h = tm_p1 st (fun x r => (x = 0 → tm_w M_R_edges d u0 Q u S n 40 L r h) ∧ (¬ x = 0 → tm_w M_R_edges d u0 Q u S n 34 L r h)) := tm_r_ifeq (off := 9) (by decide +kernel) rfl rfl
theorem ws_R_edges_34 : tm_s M_R_edges d u0 Q u S n 34 L st h = tm_gI L 2 (fun x => tm_w M_R_edges d u0 Q u S n 35 L (.int x :: st) h) := tm_r_iload_n (i := 2) (by decide +kernel) rfl rfl
theorem ws_R_edges_35 : tm_s M_R_edges d u0 Q u S n 35 L st h = tm_w M_R_edges d u0 Q u S n 36 L (.int 1 :: st) h := tm_r_iconst (k := 1) (by decide +kernel) rfl (by decide)
theorem ws_R_edges_36 : tm_s M_R_edges d u0 Q u S n 36 L st h = tm_p1 st (fun y r => tm_p1 r (fun x r => tm_w M_R_edges d u0 Q u S n 37 L (.int (x + y) :: r) h)) := tm_r_iadd (by decide +kernel) rfl
theorem ws_R_edges_37 : tm_s M_R_edges d u0 Q u S n 37 L st h = tm_w M_R_edges d u0 Q u S n 41 L st h := tm_r_goto (off := 4) (by decide +kernel) rfl
theorem ws_R_edges_40 : tm_s M_R_edges d u0 Q u S n 40 L st h = tm_gI L 2 (fun x => tm_w M_R_edges d u0 Q u S n 41 L (.int x :: st) h) := tm_r_iload_n (i := 2) (by decide +kernel) rfl rfl
theorem ws_R_edges_41 : tm_s M_R_edges d u0 Q u S n 41 L st h = tm_p1 st (fun x r => tm_w M_R_edges d u0 Q u S n 42 (L.set 2 (some (.int x))) r h) := tm_r_istore_n (i := 2) (by decide +kernel) rfl rfl (by decide)
theorem ws_R_edges_42 : tm_s M_R_edges d u0 Q u S n 42 L st h = tm_gI L 4 (fun x => tm_w M_R_edges d u0 Q u S n 45 (L.set 4 (some (.int (x + 1)))) st h) := tm_r_iinc (j := 4) (k := 1) (by decide +kernel) rfl (by decide) (by decide)
theorem ws_R_edges_45 : tm_s M_R_edges d u0 Q u S n 45 L st h = tm_w M_R_edges d u0 Q u S n 17 L st h := tm_r_goto (off := (-28)) (by decide +kernel) rfl
theorem ws_R_edges_48 : tm_s M_R_edges d u0 Q u S n 48 L st h = tm_gI L 3 (fun x => tm_w M_R_edges d u0 Q u S n 51 (L.set 3 (some (.int (x + 1)))) st h) := tm_r_iinc (j := 3) (k := 1) (by decide +kernel) rfl (by decide) (by decide)
theorem ws_R_edges_51 : tm_s M_R_edges d u0 Q u S n 51 L st h = tm_w M_R_edges d u0 Q u S n 4 L st h := tm_r_goto (off := (-47)) (by decide +kernel) rfl
theorem ws_R_edges_54 : tm_s M_R_edges d u0 Q u S n 54 L st h = tm_gI L 2 (fun x => tm_w M_R_edges d u0 Q u S n 55 L (.int x :: st) h) := tm_r_iload_n (i := 2) (by decide +kernel) rfl rfl
theorem ws_R_edges_55 : tm_s M_R_edges d u0 Q u S n 55 L st h = tm_p1 st (fun x r => r = [] ∧ Q (.inl (some (.int x))) h) := tm_r_iret (by decide +kernel) rfl
theorem ws_R_vertex_0 : tm_s M_R_vertex d u0 Q u S n 0 L st h = tm_gA L 0 (fun x => tm_w M_R_vertex d u0 Q u S n 1 L (.ref x :: st) h) := tm_r_aload_n (i := 0) (by decide +kernel) rfl rfl
theorem ws_R_vertex_1 : tm_s M_R_vertex d u0 Q u S n 1 L st h = tm_gI L 1 (fun x => tm_w M_R_vertex d u0 Q u S n 2 L (.int x :: st) h) := tm_r_iload_n (i := 1) (by decide +kernel) rfl rfl
theorem dd_R_vertex_2 : decode (tm_cc M_R_vertex) 2 = .ok (.invokestatic 45, 3) := by decide +kernel
theorem ws_R_vertex_2 : tm_s M_R_vertex d u0 Q u S n 2 L st h = tm_T M_R_vertex d u0 Q u 2 L st h := tm_r_invs dd_R_vertex_2
theorem ws_R_vertex_5 : tm_s M_R_vertex d u0 Q u S n 5 L st h = tm_p1 st (fun x r => (x = 0 → tm_w M_R_vertex d u0 Q u S n 12 L r h) ∧ (¬ x = 0 → tm_w M_R_vertex d u0 Q u S n 8 L r h)) := tm_r_ifeq (off := 7) (by decide +kernel) rfl rfl
theorem ws_R_vertex_8 : tm_s M_R_vertex d u0 Q u S n 8 L st h = tm_w M_R_vertex d u0 Q u S n 9 L (.int 1 :: st) h := tm_r_iconst (k := 1) (by decide +kernel) rfl (by decide)
theorem ws_R_vertex_9 : tm_s M_R_vertex d u0 Q u S n 9 L st h = tm_w M_R_vertex d u0 Q u S n 41 L st h := tm_r_goto (off := 32) (by decide +kernel) rfl
theorem ws_R_vertex_12 : tm_s M_R_vertex d u0 Q u S n 12 L st h = tm_gI L 2 (fun x => tm_w M_R_vertex d u0 Q u S n 13 L (.int x :: st) h) := tm_r_iload_n (i := 2) (by decide +kernel) rfl rfl
theorem ws_R_vertex_13 : tm_s M_R_vertex d u0 Q u S n 13 L st h = tm_p1 st (fun x r => (x < 0 → tm_w M_R_vertex d u0 Q u S n 21 L r h) ∧ (¬ x < 0 → tm_w M_R_vertex d u0 Q u S n 16 L r h)) := tm_r_iflt (off := 8) (by decide +kernel) rfl rfl
theorem ws_R_vertex_16 : tm_s M_R_vertex d u0 Q u S n 16 L st h = tm_gI L 2 (fun x => tm_w M_R_vertex d u0 Q u S n 17 L (.int x :: st) h) := tm_r_iload_n (i := 2) (by decide +kernel) rfl rfl
theorem ws_R_vertex_17 : tm_s M_R_vertex d u0 Q u S n 17 L st h = tm_w M_R_vertex d u0 Q u S n 18 L (.int 3 :: st) h := tm_r_iconst (k := 3) (by decide +kernel) rfl (by decide)
theorem ws_R_vertex_18 : tm_s M_R_vertex d u0 Q u S n 18 L st h = tm_p1 st (fun y r => tm_p1 r (fun x r => (x ≤ y → tm_w M_R_vertex d u0 Q u S n 25 L r h) ∧ (¬ x ≤ y → tm_w M_R_vertex d u0 Q u S n 21 L r h))) := tm_r_icle (off := 7) (by decide +kernel) rfl rfl
theorem ws_R_vertex_21 : tm_s M_R_vertex d u0 Q u S n 21 L st h = tm_w M_R_vertex d u0 Q u S n 22 L (.int 2 :: st) h := tm_r_iconst (k := 2) (by decide +kernel) rfl (by decide)
theorem ws_R_vertex_22 : tm_s M_R_vertex d u0 Q u S n 22 L st h = tm_w M_R_vertex d u0 Q u S n 41 L st h := tm_r_goto (off := 19) (by decide +kernel) rfl
theorem ws_R_vertex_25 : tm_s M_R_vertex d u0 Q u S n 25 L st h = tm_gA L 0 (fun x => tm_w M_R_vertex d u0 Q u S n 26 L (.ref x :: st) h) := tm_r_aload_n (i := 0) (by decide +kernel) rfl rfl
theorem ws_R_vertex_26 : tm_s M_R_vertex d u0 Q u S n 26 L st h = tm_pA st (fun a r => tm_cO (h a) 5 (fun fs => tm_fv fs 1 (fun v => tm_w M_R_vertex d u0 Q u S n 29 L (v :: r) h))) := tm_r_getf (i := 7) (by decide +kernel) rfl (by decide +kernel)
theorem ws_R_vertex_29 : tm_s M_R_vertex d u0 Q u S n 29 L st h = tm_gI L 1 (fun x => tm_w M_R_vertex d u0 Q u S n 30 L (.int x :: st) h) := tm_r_iload_n (i := 1) (by decide +kernel) rfl rfl
theorem ws_R_vertex_30 : tm_s M_R_vertex d u0 Q u S n 30 L st h = tm_p1 st (fun i r => tm_pA r (fun a r => tm_cI (h a) (fun k f => vp_in i k ∧ tm_w M_R_vertex d u0 Q u S n 31 L (.int (f i.toNatClampNeg) :: r) h))) := tm_r_iaload (by decide +kernel) rfl
theorem ws_R_vertex_31 : tm_s M_R_vertex d u0 Q u S n 31 L st h = tm_w M_R_vertex d u0 Q u S n 33 L (.int 7 :: st) h := tm_r_bipush (k := 7) (by decide +kernel) rfl (by decide)
theorem ws_R_vertex_33 : tm_s M_R_vertex d u0 Q u S n 33 L st h = tm_p1 st (fun y r => tm_p1 r (fun x r => (¬ x = y → tm_w M_R_vertex d u0 Q u S n 40 L r h) ∧ (¬ ¬ x = y → tm_w M_R_vertex d u0 Q u S n 36 L r h))) := tm_r_icne (off := 7) (by decide +kernel) rfl rfl
theorem ws_R_vertex_36 : tm_s M_R_vertex d u0 Q u S n 36 L st h = tm_w M_R_vertex d u0 Q u S n 37 L (.int 3 :: st) h := tm_r_iconst (k := 3) (by decide +kernel) rfl (by decide)
theorem ws_R_vertex_37 : tm_s M_R_vertex d u0 Q u S n 37 L st h = tm_w M_R_vertex d u0 Q u S n 41 L st h := tm_r_goto (off := 4) (by decide +kernel) rfl
theorem ws_R_vertex_40 : tm_s M_R_vertex d u0 Q u S n 40 L st h = tm_w M_R_vertex d u0 Q u S n 41 L (.int 0 :: st) h := tm_r_iconst (k := 0) (by decide +kernel) rfl (by decide)
theorem dd_R_vertex_41 : decode (tm_cc M_R_vertex) 41 = .ok (.invokevirtual 53, 3) := by decide +kernel
theorem ws_R_vertex_41 : tm_s M_R_vertex d u0 Q u S n 41 L st h = tm_T M_R_vertex d u0 Q u 41 L st h := tm_r_invv dd_R_vertex_41
theorem ws_R_vertex_44 : tm_s M_R_vertex d u0 Q u S n 44 L st h = tm_p1 st (fun x r => (x = 0 → tm_w M_R_vertex d u0 Q u S n 49 L r h) ∧ (¬ x = 0 → tm_w M_R_vertex d u0 Q u S n 47 L r h)) := tm_r_ifeq (off := 5) (by decide +kernel) rfl rfl
theorem ws_R_vertex_47 : tm_s M_R_vertex d u0 Q u S n 47 L st h = tm_w M_R_vertex d u0 Q u S n 48 L (.int 0 :: st) h := tm_r_iconst (k := 0) (by decide +kernel) rfl (by decide)
theorem ws_R_vertex_48 : tm_s M_R_vertex d u0 Q u S n 48 L st h = tm_p1 st (fun x r => r = [] ∧ Q (.inl (some (.int x))) h) := tm_r_iret (by decide +kernel) rfl
theorem ws_R_vertex_49 : tm_s M_R_vertex d u0 Q u S n 49 L st h = tm_gA L 0 (fun x => tm_w M_R_vertex d u0 Q u S n 50 L (.ref x :: st) h) := tm_r_aload_n (i := 0) (by decide +kernel) rfl rfl
theorem ws_R_vertex_50 : tm_s M_R_vertex d u0 Q u S n 50 L st h = tm_pA st (fun a r => tm_cO (h a) 5 (fun fs => tm_fv fs 1 (fun v => tm_w M_R_vertex d u0 Q u S n 53 L (v :: r) h))) := tm_r_getf (i := 7) (by decide +kernel) rfl (by decide +kernel)
theorem ws_R_vertex_53 : tm_s M_R_vertex d u0 Q u S n 53 L st h = tm_gI L 1 (fun x => tm_w M_R_vertex d u0 Q u S n 54 L (.int x :: st) h) := tm_r_iload_n (i := 1) (by decide +kernel) rfl rfl
theorem ws_R_vertex_54 : tm_s M_R_vertex d u0 Q u S n 54 L st h = tm_p1 st (fun i r => tm_pA r (fun a r => tm_cI (h a) (fun k f => vp_in i k ∧ tm_w M_R_vertex d u0 Q u S n 55 L (.int (f i.toNatClampNeg) :: r) h))) := tm_r_iaload (by decide +kernel) rfl
theorem ws_R_vertex_55 : tm_s M_R_vertex d u0 Q u S n 55 L st h = tm_p1 st (fun x r => tm_w M_R_vertex d u0 Q u S n 56 (L.set 3 (some (.int x))) r h) := tm_r_istore_n (i := 3) (by decide +kernel) rfl rfl (by decide)
theorem ws_R_vertex_56 : tm_s M_R_vertex d u0 Q u S n 56 L st h = tm_gA L 0 (fun x => tm_w M_R_vertex d u0 Q u S n 57 L (.ref x :: st) h) := tm_r_aload_n (i := 0) (by decide +kernel) rfl rfl
theorem ws_R_vertex_57 : tm_s M_R_vertex d u0 Q u S n 57 L st h = tm_pA st (fun a r => tm_cO (h a) 5 (fun fs => tm_fv fs 2 (fun v => tm_w M_R_vertex d u0 Q u S n 60 L (v :: r) h))) := tm_r_getf (i := 13) (by decide +kernel) rfl (by decide +kernel)
theorem ws_R_vertex_60 : tm_s M_R_vertex d u0 Q u S n 60 L st h = tm_w M_R_vertex d u0 Q u S n 62 L (.int 7 :: st) h := tm_r_bipush (k := 7) (by decide +kernel) rfl (by decide)
theorem ws_R_vertex_62 : tm_s M_R_vertex d u0 Q u S n 62 L st h = tm_gI L 1 (fun x => tm_w M_R_vertex d u0 Q u S n 63 L (.int x :: st) h) := tm_r_iload_n (i := 1) (by decide +kernel) rfl rfl
theorem ws_R_vertex_63 : tm_s M_R_vertex d u0 Q u S n 63 L st h = tm_p1 st (fun y r => tm_p1 r (fun x r => tm_w M_R_vertex d u0 Q u S n 64 L (.int (x * y) :: r) h)) := tm_r_imul (by decide +kernel) rfl
theorem ws_R_vertex_64 : tm_s M_R_vertex d u0 Q u S n 64 L st h = tm_gI L 3 (fun x => tm_w M_R_vertex d u0 Q u S n 65 L (.int x :: st) h) := tm_r_iload_n (i := 3) (by decide +kernel) rfl rfl
theorem ws_R_vertex_65 : tm_s M_R_vertex d u0 Q u S n 65 L st h = tm_p1 st (fun y r => tm_p1 r (fun x r => tm_w M_R_vertex d u0 Q u S n 66 L (.int (x + y) :: r) h)) := tm_r_iadd (by decide +kernel) rfl
theorem ws_R_vertex_66 : tm_s M_R_vertex d u0 Q u S n 66 L st h = tm_gI L 2 (fun x => tm_w M_R_vertex d u0 Q u S n 67 L (.int x :: st) h) := tm_r_iload_n (i := 2) (by decide +kernel) rfl rfl
theorem ws_R_vertex_67 : tm_s M_R_vertex d u0 Q u S n 67 L st h = tm_p1 st (fun x r => tm_p1 r (fun i r => tm_pA r (fun a r => tm_cI (h a) (fun k f => a < tm_K ∧ vp_in i k ∧ tm_w M_R_vertex d u0 Q u S n 68 L r (tm_up h a (tm_i k (upd f i.toNatClampNeg x))))))) := tm_r_iastore (by decide +kernel) rfl
theorem ws_R_vertex_68 : tm_s M_R_vertex d u0 Q u S n 68 L st h = tm_w M_R_vertex d u0 Q u S n 69 L (.int 0 :: st) h := tm_r_iconst (k := 0) (by decide +kernel) rfl (by decide)
theorem ws_R_vertex_69 : tm_s M_R_vertex d u0 Q u S n 69 L st h = tm_p1 st (fun x r => tm_w M_R_vertex d u0 Q u S n 71 (L.set 4 (some (.int x))) r h) := tm_r_istore (j := 4) (by decide +kernel) rfl (by decide)
theorem ws_R_vertex_71 : tm_s M_R_vertex d u0 Q u S n 71 L st h = tm_gI L 4 (fun x => tm_w M_R_vertex d u0 Q u S n 73 L (.int x :: st) h) := tm_r_iload (j := 4) (by decide +kernel) rfl
theorem ws_R_vertex_73 : tm_s M_R_vertex d u0 Q u S n 73 L st h = tm_w M_R_vertex d u0 Q u S n 75 L (.int 7 :: st) h := tm_r_bipush (k := 7) (by decide +kernel) rfl (by decide)
theorem ws_R_vertex_75 : tm_s M_R_vertex d u0 Q u S n 75 L st h = tm_p1 st (fun y r => tm_p1 r (fun x r => (y ≤ x → tm_w M_R_vertex d u0 Q u S n 93 L r h) ∧ (¬ y ≤ x → tm_w M_R_vertex d u0 Q u S n 78 L r h))) := tm_r_icge (off := 18) (by decide +kernel) rfl rfl
theorem ws_R_vertex_78 : tm_s M_R_vertex d u0 Q u S n 78 L st h = tm_gA L 0 (fun x => tm_w M_R_vertex d u0 Q u S n 79 L (.ref x :: st) h) := tm_r_aload_n (i := 0) (by decide +kernel) rfl rfl
theorem ws_R_vertex_79 : tm_s M_R_vertex d u0 Q u S n 79 L st h = tm_gI L 1 (fun x => tm_w M_R_vertex d u0 Q u S n 80 L (.int x :: st) h) := tm_r_iload_n (i := 1) (by decide +kernel) rfl rfl
theorem ws_R_vertex_80 : tm_s M_R_vertex d u0 Q u S n 80 L st h = tm_gI L 3 (fun x => tm_w M_R_vertex d u0 Q u S n 81 L (.int x :: st) h) := tm_r_iload_n (i := 3) (by decide +kernel) rfl rfl
theorem ws_R_vertex_81 : tm_s M_R_vertex d u0 Q u S n 81 L st h = tm_gI L 4 (fun x => tm_w M_R_vertex d u0 Q u S n 83 L (.int x :: st) h) := tm_r_iload (j := 4) (by decide +kernel) rfl
theorem ws_R_vertex_83 : tm_s M_R_vertex d u0 Q u S n 83 L st h = tm_w M_R_vertex d u0 Q u S n 84 L (.int 0 :: st) h := tm_r_iconst (k := 0) (by decide +kernel) rfl (by decide)
theorem dd_R_vertex_84 : decode (tm_cc M_R_vertex) 84 = .ok (.invokevirtual 56, 3) := by decide +kernel
theorem ws_R_vertex_84 : tm_s M_R_vertex d u0 Q u S n 84 L st h = tm_T M_R_vertex d u0 Q u 84 L st h := tm_r_invv dd_R_vertex_84
theorem ws_R_vertex_87 : tm_s M_R_vertex d u0 Q u S n 87 L st h = tm_gI L 4 (fun x => tm_w M_R_vertex d u0 Q u S n 90 (L.set 4 (some (.int (x + 1)))) st h) := tm_r_iinc (j := 4) (k := 1) (by decide +kernel) rfl (by decide) (by decide)
theorem ws_R_vertex_90 : tm_s M_R_vertex d u0 Q u S n 90 L st h = tm_w M_R_vertex d u0 Q u S n 71 L st h := tm_r_goto (off := (-19)) (by decide +kernel) rfl
theorem ws_R_vertex_93 : tm_s M_R_vertex d u0 Q u S n 93 L st h = tm_gA L 0 (fun x => tm_w M_R_vertex d u0 Q u S n 94 L (.ref x :: st) h) := tm_r_aload_n (i := 0) (by decide +kernel) rfl rfl
theorem ws_R_vertex_94 : tm_s M_R_vertex d u0 Q u S n 94 L st h = tm_pA st (fun a r => tm_cO (h a) 5 (fun fs => tm_fv fs 1 (fun v => tm_w M_R_vertex d u0 Q u S n 97 L (v :: r) h))) := tm_r_getf (i := 7) (by decide +kernel) rfl (by decide +kernel)
theorem ws_R_vertex_97 : tm_s M_R_vertex d u0 Q u S n 97 L st h = tm_gI L 1 (fun x => tm_w M_R_vertex d u0 Q u S n 98 L (.int x :: st) h) := tm_r_iload_n (i := 1) (by decide +kernel) rfl rfl
theorem ws_R_vertex_98 : tm_s M_R_vertex d u0 Q u S n 98 L st h = tm_pV st (fun v r => tm_pV r (fun w r => tm_w M_R_vertex d u0 Q u S n 99 L (v :: w :: v :: w :: r) h)) := tm_r_dup2 (by decide +kernel) rfl
theorem ws_R_vertex_99 : tm_s M_R_vertex d u0 Q u S n 99 L st h = tm_p1 st (fun i r => tm_pA r (fun a r => tm_cI (h a) (fun k f => vp_in i k ∧ tm_w M_R_vertex d u0 Q u S n 100 L (.int (f i.toNatClampNeg) :: r) h))) := tm_r_iaload (by decide +kernel) rfl
theorem ws_R_vertex_100 : tm_s M_R_vertex d u0 Q u S n 100 L st h = tm_w M_R_vertex d u0 Q u S n 101 L (.int 1 :: st) h := tm_r_iconst (k := 1) (by decide +kernel) rfl (by decide)
theorem ws_R_vertex_101 : tm_s M_R_vertex d u0 Q u S n 101 L st h = tm_p1 st (fun y r => tm_p1 r (fun x r => tm_w M_R_vertex d u0 Q u S n 102 L (.int (x + y) :: r) h)) := tm_r_iadd (by decide +kernel) rfl
theorem ws_R_vertex_102 : tm_s M_R_vertex d u0 Q u S n 102 L st h = tm_p1 st (fun x r => tm_p1 r (fun i r => tm_pA r (fun a r => tm_cI (h a) (fun k f => a < tm_K ∧ vp_in i k ∧ tm_w M_R_vertex d u0 Q u S n 103 L r (tm_up h a (tm_i k (upd f i.toNatClampNeg x))))))) := tm_r_iastore (by decide +kernel) rfl
theorem ws_R_vertex_103 : tm_s M_R_vertex d u0 Q u S n 103 L st h = tm_gI L 3 (fun x => tm_w M_R_vertex d u0 Q u S n 104 L (.int x :: st) h) := tm_r_iload_n (i := 3) (by decide +kernel) rfl rfl
theorem ws_R_vertex_104 : tm_s M_R_vertex d u0 Q u S n 104 L st h = tm_p1 st (fun x r => r = [] ∧ Q (.inl (some (.int x))) h) := tm_r_iret (by decide +kernel) rfl
theorem ws_R_paint_0 : tm_s M_R_paint d u0 Q u S n 0 L st h = tm_gA L 0 (fun x => tm_w M_R_paint d u0 Q u S n 1 L (.ref x :: st) h) := tm_r_aload_n (i := 0) (by decide +kernel) rfl rfl
theorem ws_R_paint_1 : tm_s M_R_paint d u0 Q u S n 1 L st h = tm_gA L 0 (fun x => tm_w M_R_paint d u0 Q u S n 2 L (.ref x :: st) h) := tm_r_aload_n (i := 0) (by decide +kernel) rfl rfl
theorem ws_R_paint_2 : tm_s M_R_paint d u0 Q u S n 2 L st h = tm_gI L 1 (fun x => tm_w M_R_paint d u0 Q u S n 3 L (.int x :: st) h) := tm_r_iload_n (i := 1) (by decide +kernel) rfl rfl
theorem ws_R_paint_3 : tm_s M_R_paint d u0 Q u S n 3 L st h = tm_gI L 2 (fun x => tm_w M_R_paint d u0 Q u S n 4 L (.int x :: st) h) := tm_r_iload_n (i := 2) (by decide +kernel) rfl rfl
theorem dd_R_paint_4 : decode (tm_cc M_R_paint) 4 = .ok (.invokevirtual 60, 3) := by decide +kernel
theorem ws_R_paint_4 : tm_s M_R_paint d u0 Q u S n 4 L st h = tm_T M_R_paint d u0 Q u 4 L st h := tm_r_invv dd_R_paint_4
theorem ws_R_paint_7 : tm_s M_R_paint d u0 Q u S n 7 L st h = tm_p1 st (fun x r => (x = 0 → tm_w M_R_paint d u0 Q u S n 14 L r h) ∧ (¬ x = 0 → tm_w M_R_paint d u0 Q u S n 10 L r h)) := tm_r_ifeq (off := 7) (by decide +kernel) rfl rfl
theorem ws_R_paint_10 : tm_s M_R_paint d u0 Q u S n 10 L st h = tm_w M_R_paint d u0 Q u S n 11 L (.int 1 :: st) h := tm_r_iconst (k := 1) (by decide +kernel) rfl (by decide)
theorem ws_R_paint_11 : tm_s M_R_paint d u0 Q u S n 11 L st h = tm_w M_R_paint d u0 Q u S n 28 L st h := tm_r_goto (off := 17) (by decide +kernel) rfl
theorem ws_R_paint_14 : tm_s M_R_paint d u0 Q u S n 14 L st h = tm_gI L 3 (fun x => tm_w M_R_paint d u0 Q u S n 15 L (.int x :: st) h) := tm_r_iload_n (i := 3) (by decide +kernel) rfl rfl
theorem ws_R_paint_15 : tm_s M_R_paint d u0 Q u S n 15 L st h = tm_p1 st (fun x r => (x < 0 → tm_w M_R_paint d u0 Q u S n 23 L r h) ∧ (¬ x < 0 → tm_w M_R_paint d u0 Q u S n 18 L r h)) := tm_r_iflt (off := 8) (by decide +kernel) rfl rfl
theorem ws_R_paint_18 : tm_s M_R_paint d u0 Q u S n 18 L st h = tm_gI L 3 (fun x => tm_w M_R_paint d u0 Q u S n 19 L (.int x :: st) h) := tm_r_iload_n (i := 3) (by decide +kernel) rfl rfl
theorem ws_R_paint_19 : tm_s M_R_paint d u0 Q u S n 19 L st h = tm_w M_R_paint d u0 Q u S n 20 L (.int 3 :: st) h := tm_r_iconst (k := 3) (by decide +kernel) rfl (by decide)
theorem ws_R_paint_20 : tm_s M_R_paint d u0 Q u S n 20 L st h = tm_p1 st (fun y r => tm_p1 r (fun x r => (x ≤ y → tm_w M_R_paint d u0 Q u S n 27 L r h) ∧ (¬ x ≤ y → tm_w M_R_paint d u0 Q u S n 23 L r h))) := tm_r_icle (off := 7) (by decide +kernel) rfl rfl
theorem ws_R_paint_23 : tm_s M_R_paint d u0 Q u S n 23 L st h = tm_w M_R_paint d u0 Q u S n 24 L (.int 2 :: st) h := tm_r_iconst (k := 2) (by decide +kernel) rfl (by decide)
theorem ws_R_paint_24 : tm_s M_R_paint d u0 Q u S n 24 L st h = tm_w M_R_paint d u0 Q u S n 28 L st h := tm_r_goto (off := 4) (by decide +kernel) rfl
theorem ws_R_paint_27 : tm_s M_R_paint d u0 Q u S n 27 L st h = tm_w M_R_paint d u0 Q u S n 28 L (.int 0 :: st) h := tm_r_iconst (k := 0) (by decide +kernel) rfl (by decide)
theorem dd_R_paint_28 : decode (tm_cc M_R_paint) 28 = .ok (.invokevirtual 53, 3) := by decide +kernel
theorem ws_R_paint_28 : tm_s M_R_paint d u0 Q u S n 28 L st h = tm_T M_R_paint d u0 Q u 28 L st h := tm_r_invv dd_R_paint_28
theorem ws_R_paint_31 : tm_s M_R_paint d u0 Q u S n 31 L st h = tm_p1 st (fun x r => (x = 0 → tm_w M_R_paint d u0 Q u S n 36 L r h) ∧ (¬ x = 0 → tm_w M_R_paint d u0 Q u S n 34 L r h)) := tm_r_ifeq (off := 5) (by decide +kernel) rfl rfl
theorem ws_R_paint_34 : tm_s M_R_paint d u0 Q u S n 34 L st h = tm_w M_R_paint d u0 Q u S n 35 L (.int 0 :: st) h := tm_r_iconst (k := 0) (by decide +kernel) rfl (by decide)
theorem ws_R_paint_35 : tm_s M_R_paint d u0 Q u S n 35 L st h = tm_p1 st (fun x r => r = [] ∧ Q (.inl (some (.int x))) h) := tm_r_iret (by decide +kernel) rfl
theorem ws_R_paint_36 : tm_s M_R_paint d u0 Q u S n 36 L st h = tm_gA L 0 (fun x => tm_w M_R_paint d u0 Q u S n 37 L (.ref x :: st) h) := tm_r_aload_n (i := 0) (by decide +kernel) rfl rfl
theorem ws_R_paint_37 : tm_s M_R_paint d u0 Q u S n 37 L st h = tm_gI L 1 (fun x => tm_w M_R_paint d u0 Q u S n 38 L (.int x :: st) h) := tm_r_iload_n (i := 1) (by decide +kernel) rfl rfl
theorem ws_R_paint_38 : tm_s M_R_paint d u0 Q u S n 38 L st h = tm_gI L 2 (fun x => tm_w M_R_paint d u0 Q u S n 39 L (.int x :: st) h) := tm_r_iload_n (i := 2) (by decide +kernel) rfl rfl
theorem dd_R_paint_39 : decode (tm_cc M_R_paint) 39 = .ok (.invokevirtual 64, 3) := by decide +kernel
theorem ws_R_paint_39 : tm_s M_R_paint d u0 Q u S n 39 L st h = tm_T M_R_paint d u0 Q u 39 L st h := tm_r_invv dd_R_paint_39
theorem ws_R_paint_42 : tm_s M_R_paint d u0 Q u S n 42 L st h = tm_p1 st (fun x r => tm_w M_R_paint d u0 Q u S n 44 (L.set 4 (some (.int x))) r h) := tm_r_istore (j := 4) (by decide +kernel) rfl (by decide)
theorem ws_R_paint_44 : tm_s M_R_paint d u0 Q u S n 44 L st h = tm_gA L 0 (fun x => tm_w M_R_paint d u0 Q u S n 45 L (.ref x :: st) h) := tm_r_aload_n (i := 0) (by decide +kernel) rfl rfl
theorem ws_R_paint_45 : tm_s M_R_paint d u0 Q u S n 45 L st h = tm_pA st (fun a r => tm_cO (h a) 5 (fun fs => tm_fv fs 2 (fun v => tm_w M_R_paint d u0 Q u S n 48 L (v :: r) h))) := tm_r_getf (i := 13) (by decide +kernel) rfl (by decide +kernel)
theorem ws_R_paint_48 : tm_s M_R_paint d u0 Q u S n 48 L st h = tm_w M_R_paint d u0 Q u S n 50 L (.int 7 :: st) h := tm_r_bipush (k := 7) (by decide +kernel) rfl (by decide)
theorem ws_R_paint_50 : tm_s M_R_paint d u0 Q u S n 50 L st h = tm_gI L 1 (fun x => tm_w M_R_paint d u0 Q u S n 51 L (.int x :: st) h) := tm_r_iload_n (i := 1) (by decide +kernel) rfl rfl
theorem ws_R_paint_51 : tm_s M_R_paint d u0 Q u S n 51 L st h = tm_p1 st (fun y r => tm_p1 r (fun x r => tm_w M_R_paint d u0 Q u S n 52 L (.int (x * y) :: r) h)) := tm_r_imul (by decide +kernel) rfl
theorem ws_R_paint_52 : tm_s M_R_paint d u0 Q u S n 52 L st h = tm_gI L 2 (fun x => tm_w M_R_paint d u0 Q u S n 53 L (.int x :: st) h) := tm_r_iload_n (i := 2) (by decide +kernel) rfl rfl
theorem ws_R_paint_53 : tm_s M_R_paint d u0 Q u S n 53 L st h = tm_p1 st (fun y r => tm_p1 r (fun x r => tm_w M_R_paint d u0 Q u S n 54 L (.int (x + y) :: r) h)) := tm_r_iadd (by decide +kernel) rfl
theorem ws_R_paint_54 : tm_s M_R_paint d u0 Q u S n 54 L st h = tm_gI L 3 (fun x => tm_w M_R_paint d u0 Q u S n 55 L (.int x :: st) h) := tm_r_iload_n (i := 3) (by decide +kernel) rfl rfl
theorem ws_R_paint_55 : tm_s M_R_paint d u0 Q u S n 55 L st h = tm_p1 st (fun x r => tm_p1 r (fun i r => tm_pA r (fun a r => tm_cI (h a) (fun k f => a < tm_K ∧ vp_in i k ∧ tm_w M_R_paint d u0 Q u S n 56 L r (tm_up h a (tm_i k (upd f i.toNatClampNeg x))))))) := tm_r_iastore (by decide +kernel) rfl
theorem ws_R_paint_56 : tm_s M_R_paint d u0 Q u S n 56 L st h = tm_gI L 4 (fun x => tm_w M_R_paint d u0 Q u S n 58 L (.int x :: st) h) := tm_r_iload (j := 4) (by decide +kernel) rfl
theorem ws_R_paint_58 : tm_s M_R_paint d u0 Q u S n 58 L st h = tm_p1 st (fun x r => r = [] ∧ Q (.inl (some (.int x))) h) := tm_r_iret (by decide +kernel) rfl
theorem ws_R_join_0 : tm_s M_R_join d u0 Q u S n 0 L st h = tm_gA L 0 (fun x => tm_w M_R_join d u0 Q u S n 1 L (.ref x :: st) h) := tm_r_aload_n (i := 0) (by decide +kernel) rfl rfl
theorem ws_R_join_1 : tm_s M_R_join d u0 Q u S n 1 L st h = tm_gA L 0 (fun x => tm_w M_R_join d u0 Q u S n 2 L (.ref x :: st) h) := tm_r_aload_n (i := 0) (by decide +kernel) rfl rfl
theorem ws_R_join_2 : tm_s M_R_join d u0 Q u S n 2 L st h = tm_gI L 1 (fun x => tm_w M_R_join d u0 Q u S n 3 L (.int x :: st) h) := tm_r_iload_n (i := 1) (by decide +kernel) rfl rfl
theorem ws_R_join_3 : tm_s M_R_join d u0 Q u S n 3 L st h = tm_gI L 2 (fun x => tm_w M_R_join d u0 Q u S n 4 L (.int x :: st) h) := tm_r_iload_n (i := 2) (by decide +kernel) rfl rfl
theorem dd_R_join_4 : decode (tm_cc M_R_join) 4 = .ok (.invokevirtual 60, 3) := by decide +kernel
theorem ws_R_join_4 : tm_s M_R_join d u0 Q u S n 4 L st h = tm_T M_R_join d u0 Q u 4 L st h := tm_r_invv dd_R_join_4
theorem ws_R_join_7 : tm_s M_R_join d u0 Q u S n 7 L st h = tm_p1 st (fun x r => (¬ x = 0 → tm_w M_R_join d u0 Q u S n 19 L r h) ∧ (¬ ¬ x = 0 → tm_w M_R_join d u0 Q u S n 10 L r h)) := tm_r_ifne (off := 12) (by decide +kernel) rfl rfl
theorem ws_R_join_10 : tm_s M_R_join d u0 Q u S n 10 L st h = tm_gA L 0 (fun x => tm_w M_R_join d u0 Q u S n 11 L (.ref x :: st) h) := tm_r_aload_n (i := 0) (by decide +kernel) rfl rfl
theorem ws_R_join_11 : tm_s M_R_join d u0 Q u S n 11 L st h = tm_gI L 1 (fun x => tm_w M_R_join d u0 Q u S n 12 L (.int x :: st) h) := tm_r_iload_n (i := 1) (by decide +kernel) rfl rfl
theorem ws_R_join_12 : tm_s M_R_join d u0 Q u S n 12 L st h = tm_gI L 3 (fun x => tm_w M_R_join d u0 Q u S n 13 L (.int x :: st) h) := tm_r_iload_n (i := 3) (by decide +kernel) rfl rfl
theorem dd_R_join_13 : decode (tm_cc M_R_join) 13 = .ok (.invokevirtual 60, 3) := by decide +kernel
theorem ws_R_join_13 : tm_s M_R_join d u0 Q u S n 13 L st h = tm_T M_R_join d u0 Q u 13 L st h := tm_r_invv dd_R_join_13
theorem ws_R_join_16 : tm_s M_R_join d u0 Q u S n 16 L st h = tm_p1 st (fun x r => (x = 0 → tm_w M_R_join d u0 Q u S n 23 L r h) ∧ (¬ x = 0 → tm_w M_R_join d u0 Q u S n 19 L r h)) := tm_r_ifeq (off := 7) (by decide +kernel) rfl rfl
theorem ws_R_join_19 : tm_s M_R_join d u0 Q u S n 19 L st h = tm_w M_R_join d u0 Q u S n 20 L (.int 1 :: st) h := tm_r_iconst (k := 1) (by decide +kernel) rfl (by decide)
theorem ws_R_join_20 : tm_s M_R_join d u0 Q u S n 20 L st h = tm_w M_R_join d u0 Q u S n 47 L st h := tm_r_goto (off := 27) (by decide +kernel) rfl
theorem ws_R_join_23 : tm_s M_R_join d u0 Q u S n 23 L st h = tm_gI L 2 (fun x => tm_w M_R_join d u0 Q u S n 24 L (.int x :: st) h) := tm_r_iload_n (i := 2) (by decide +kernel) rfl rfl
theorem ws_R_join_24 : tm_s M_R_join d u0 Q u S n 24 L st h = tm_gI L 3 (fun x => tm_w M_R_join d u0 Q u S n 25 L (.int x :: st) h) := tm_r_iload_n (i := 3) (by decide +kernel) rfl rfl
theorem ws_R_join_25 : tm_s M_R_join d u0 Q u S n 25 L st h = tm_p1 st (fun y r => tm_p1 r (fun x r => (¬ x = y → tm_w M_R_join d u0 Q u S n 32 L r h) ∧ (¬ ¬ x = y → tm_w M_R_join d u0 Q u S n 28 L r h))) := tm_r_icne (off := 7) (by decide +kernel) rfl rfl
theorem ws_R_join_28 : tm_s M_R_join d u0 Q u S n 28 L st h = tm_w M_R_join d u0 Q u S n 29 L (.int 2 :: st) h := tm_r_iconst (k := 2) (by decide +kernel) rfl (by decide)
theorem ws_R_join_29 : tm_s M_R_join d u0 Q u S n 29 L st h = tm_w M_R_join d u0 Q u S n 47 L st h := tm_r_goto (off := 18) (by decide +kernel) rfl
theorem ws_R_join_32 : tm_s M_R_join d u0 Q u S n 32 L st h = tm_gA L 0 (fun x => tm_w M_R_join d u0 Q u S n 33 L (.ref x :: st) h) := tm_r_aload_n (i := 0) (by decide +kernel) rfl rfl
theorem ws_R_join_33 : tm_s M_R_join d u0 Q u S n 33 L st h = tm_gI L 1 (fun x => tm_w M_R_join d u0 Q u S n 34 L (.int x :: st) h) := tm_r_iload_n (i := 1) (by decide +kernel) rfl rfl
theorem ws_R_join_34 : tm_s M_R_join d u0 Q u S n 34 L st h = tm_gI L 2 (fun x => tm_w M_R_join d u0 Q u S n 35 L (.int x :: st) h) := tm_r_iload_n (i := 2) (by decide +kernel) rfl rfl
theorem ws_R_join_35 : tm_s M_R_join d u0 Q u S n 35 L st h = tm_gI L 3 (fun x => tm_w M_R_join d u0 Q u S n 36 L (.int x :: st) h) := tm_r_iload_n (i := 3) (by decide +kernel) rfl rfl
theorem dd_R_join_36 : decode (tm_cc M_R_join) 36 = .ok (.invokevirtual 49, 3) := by decide +kernel
theorem ws_R_join_36 : tm_s M_R_join d u0 Q u S n 36 L st h = tm_T M_R_join d u0 Q u 36 L st h := tm_r_invv dd_R_join_36
theorem ws_R_join_39 : tm_s M_R_join d u0 Q u S n 39 L st h = tm_p1 st (fun x r => (x = 0 → tm_w M_R_join d u0 Q u S n 46 L r h) ∧ (¬ x = 0 → tm_w M_R_join d u0 Q u S n 42 L r h)) := tm_r_ifeq (off := 7) (by decide +kernel) rfl rfl
theorem ws_R_join_42 : tm_s M_R_join d u0 Q u S n 42 L st h = tm_w M_R_join d u0 Q u S n 43 L (.int 3 :: st) h := tm_r_iconst (k := 3) (by decide +kernel) rfl (by decide)
theorem ws_R_join_43 : tm_s M_R_join d u0 Q u S n 43 L st h = tm_w M_R_join d u0 Q u S n 47 L st h := tm_r_goto (off := 4) (by decide +kernel) rfl
theorem ws_R_join_46 : tm_s M_R_join d u0 Q u S n 46 L st h = tm_w M_R_join d u0 Q u S n 47 L (.int 0 :: st) h := tm_r_iconst (k := 0) (by decide +kernel) rfl (by decide)
theorem dd_R_join_47 : decode (tm_cc M_R_join) 47 = .ok (.invokevirtual 53, 3) := by decide +kernel
theorem ws_R_join_47 : tm_s M_R_join d u0 Q u S n 47 L st h = tm_T M_R_join d u0 Q u 47 L st h := tm_r_invv dd_R_join_47
theorem ws_R_join_50 : tm_s M_R_join d u0 Q u S n 50 L st h = tm_p1 st (fun x r => (x = 0 → tm_w M_R_join d u0 Q u S n 55 L r h) ∧ (¬ x = 0 → tm_w M_R_join d u0 Q u S n 53 L r h)) := tm_r_ifeq (off := 5) (by decide +kernel) rfl rfl
theorem ws_R_join_53 : tm_s M_R_join d u0 Q u S n 53 L st h = tm_w M_R_join d u0 Q u S n 54 L (.int 0 :: st) h := tm_r_iconst (k := 0) (by decide +kernel) rfl (by decide)
theorem ws_R_join_54 : tm_s M_R_join d u0 Q u S n 54 L st h = tm_p1 st (fun x r => r = [] ∧ Q (.inl (some (.int x))) h) := tm_r_iret (by decide +kernel) rfl
theorem ws_R_join_55 : tm_s M_R_join d u0 Q u S n 55 L st h = tm_gA L 0 (fun x => tm_w M_R_join d u0 Q u S n 56 L (.ref x :: st) h) := tm_r_aload_n (i := 0) (by decide +kernel) rfl rfl
theorem ws_R_join_56 : tm_s M_R_join d u0 Q u S n 56 L st h = tm_gI L 1 (fun x => tm_w M_R_join d u0 Q u S n 57 L (.int x :: st) h) := tm_r_iload_n (i := 1) (by decide +kernel) rfl rfl
theorem ws_R_join_57 : tm_s M_R_join d u0 Q u S n 57 L st h = tm_gI L 2 (fun x => tm_w M_R_join d u0 Q u S n 58 L (.int x :: st) h) := tm_r_iload_n (i := 2) (by decide +kernel) rfl rfl
theorem ws_R_join_58 : tm_s M_R_join d u0 Q u S n 58 L st h = tm_gI L 3 (fun x => tm_w M_R_join d u0 Q u S n 59 L (.int x :: st) h) := tm_r_iload_n (i := 3) (by decide +kernel) rfl rfl
theorem ws_R_join_59 : tm_s M_R_join d u0 Q u S n 59 L st h = tm_w M_R_join d u0 Q u S n 60 L (.int 1 :: st) h := tm_r_iconst (k := 1) (by decide +kernel) rfl (by decide)
theorem dd_R_join_60 : decode (tm_cc M_R_join) 60 = .ok (.invokevirtual 56, 3) := by decide +kernel
theorem ws_R_join_60 : tm_s M_R_join d u0 Q u S n 60 L st h = tm_T M_R_join d u0 Q u 60 L st h := tm_r_invv dd_R_join_60
theorem ws_R_join_63 : tm_s M_R_join d u0 Q u S n 63 L st h = tm_gA L 0 (fun x => tm_w M_R_join d u0 Q u S n 64 L (.ref x :: st) h) := tm_r_aload_n (i := 0) (by decide +kernel) rfl rfl
theorem ws_R_join_64 : tm_s M_R_join d u0 Q u S n 64 L st h = tm_gI L 1 (fun x => tm_w M_R_join d u0 Q u S n 65 L (.int x :: st) h) := tm_r_iload_n (i := 1) (by decide +kernel) rfl rfl
theorem dd_R_join_65 : decode (tm_cc M_R_join) 65 = .ok (.invokevirtual 68, 3) := by decide +kernel
theorem ws_R_join_65 : tm_s M_R_join d u0 Q u S n 65 L st h = tm_T M_R_join d u0 Q u 65 L st h := tm_r_invv dd_R_join_65
theorem ws_R_join_68 : tm_s M_R_join d u0 Q u S n 68 L st h = tm_p1 st (fun x r => r = [] ∧ Q (.inl (some (.int x))) h) := tm_r_iret (by decide +kernel) rfl
theorem ws_R_part_0 : tm_s M_R_part d u0 Q u S n 0 L st h = tm_gA L 0 (fun x => tm_w M_R_part d u0 Q u S n 1 L (.ref x :: st) h) := tm_r_aload_n (i := 0) (by decide +kernel) rfl rfl
theorem ws_R_part_1 : tm_s M_R_part d u0 Q u S n 1 L st h = tm_gA L 0 (fun x => tm_w M_R_part d u0 Q u S n 2 L (.ref x :: st) h) := tm_r_aload_n (i := 0) (by decide +kernel) rfl rfl
theorem ws_R_part_2 : tm_s M_R_part d u0 Q u S n 2 L st h = tm_gI L 1 (fun x => tm_w M_R_part d u0 Q u S n 3 L (.int x :: st) h) := tm_r_iload_n (i := 1) (by decide +kernel) rfl rfl
theorem ws_R_part_3 : tm_s M_R_part d u0 Q u S n 3 L st h = tm_gI L 2 (fun x => tm_w M_R_part d u0 Q u S n 4 L (.int x :: st) h) := tm_r_iload_n (i := 2) (by decide +kernel) rfl rfl
theorem dd_R_part_4 : decode (tm_cc M_R_part) 4 = .ok (.invokevirtual 60, 3) := by decide +kernel
theorem ws_R_part_4 : tm_s M_R_part d u0 Q u S n 4 L st h = tm_T M_R_part d u0 Q u 4 L st h := tm_r_invv dd_R_part_4
theorem ws_R_part_7 : tm_s M_R_part d u0 Q u S n 7 L st h = tm_p1 st (fun x r => (¬ x = 0 → tm_w M_R_part d u0 Q u S n 19 L r h) ∧ (¬ ¬ x = 0 → tm_w M_R_part d u0 Q u S n 10 L r h)) := tm_r_ifne (off := 12) (by decide +kernel) rfl rfl
theorem ws_R_part_10 : tm_s M_R_part d u0 Q u S n 10 L st h = tm_gA L 0 (fun x => tm_w M_R_part d u0 Q u S n 11 L (.ref x :: st) h) := tm_r_aload_n (i := 0) (by decide +kernel) rfl rfl
theorem ws_R_part_11 : tm_s M_R_part d u0 Q u S n 11 L st h = tm_gI L 1 (fun x => tm_w M_R_part d u0 Q u S n 12 L (.int x :: st) h) := tm_r_iload_n (i := 1) (by decide +kernel) rfl rfl
theorem ws_R_part_12 : tm_s M_R_part d u0 Q u S n 12 L st h = tm_gI L 3 (fun x => tm_w M_R_part d u0 Q u S n 13 L (.int x :: st) h) := tm_r_iload_n (i := 3) (by decide +kernel) rfl rfl
theorem dd_R_part_13 : decode (tm_cc M_R_part) 13 = .ok (.invokevirtual 60, 3) := by decide +kernel
theorem ws_R_part_13 : tm_s M_R_part d u0 Q u S n 13 L st h = tm_T M_R_part d u0 Q u 13 L st h := tm_r_invv dd_R_part_13
theorem ws_R_part_16 : tm_s M_R_part d u0 Q u S n 16 L st h = tm_p1 st (fun x r => (x = 0 → tm_w M_R_part d u0 Q u S n 23 L r h) ∧ (¬ x = 0 → tm_w M_R_part d u0 Q u S n 19 L r h)) := tm_r_ifeq (off := 7) (by decide +kernel) rfl rfl
theorem ws_R_part_19 : tm_s M_R_part d u0 Q u S n 19 L st h = tm_w M_R_part d u0 Q u S n 20 L (.int 1 :: st) h := tm_r_iconst (k := 1) (by decide +kernel) rfl (by decide)
theorem ws_R_part_20 : tm_s M_R_part d u0 Q u S n 20 L st h = tm_w M_R_part d u0 Q u S n 47 L st h := tm_r_goto (off := 27) (by decide +kernel) rfl
theorem ws_R_part_23 : tm_s M_R_part d u0 Q u S n 23 L st h = tm_gI L 2 (fun x => tm_w M_R_part d u0 Q u S n 24 L (.int x :: st) h) := tm_r_iload_n (i := 2) (by decide +kernel) rfl rfl
theorem ws_R_part_24 : tm_s M_R_part d u0 Q u S n 24 L st h = tm_gI L 3 (fun x => tm_w M_R_part d u0 Q u S n 25 L (.int x :: st) h) := tm_r_iload_n (i := 3) (by decide +kernel) rfl rfl
theorem ws_R_part_25 : tm_s M_R_part d u0 Q u S n 25 L st h = tm_p1 st (fun y r => tm_p1 r (fun x r => (¬ x = y → tm_w M_R_part d u0 Q u S n 32 L r h) ∧ (¬ ¬ x = y → tm_w M_R_part d u0 Q u S n 28 L r h))) := tm_r_icne (off := 7) (by decide +kernel) rfl rfl
theorem ws_R_part_28 : tm_s M_R_part d u0 Q u S n 28 L st h = tm_w M_R_part d u0 Q u S n 29 L (.int 2 :: st) h := tm_r_iconst (k := 2) (by decide +kernel) rfl (by decide)
theorem ws_R_part_29 : tm_s M_R_part d u0 Q u S n 29 L st h = tm_w M_R_part d u0 Q u S n 47 L st h := tm_r_goto (off := 18) (by decide +kernel) rfl
theorem ws_R_part_32 : tm_s M_R_part d u0 Q u S n 32 L st h = tm_gA L 0 (fun x => tm_w M_R_part d u0 Q u S n 33 L (.ref x :: st) h) := tm_r_aload_n (i := 0) (by decide +kernel) rfl rfl
theorem ws_R_part_33 : tm_s M_R_part d u0 Q u S n 33 L st h = tm_gI L 1 (fun x => tm_w M_R_part d u0 Q u S n 34 L (.int x :: st) h) := tm_r_iload_n (i := 1) (by decide +kernel) rfl rfl
theorem ws_R_part_34 : tm_s M_R_part d u0 Q u S n 34 L st h = tm_gI L 2 (fun x => tm_w M_R_part d u0 Q u S n 35 L (.int x :: st) h) := tm_r_iload_n (i := 2) (by decide +kernel) rfl rfl
theorem ws_R_part_35 : tm_s M_R_part d u0 Q u S n 35 L st h = tm_gI L 3 (fun x => tm_w M_R_part d u0 Q u S n 36 L (.int x :: st) h) := tm_r_iload_n (i := 3) (by decide +kernel) rfl rfl
theorem dd_R_part_36 : decode (tm_cc M_R_part) 36 = .ok (.invokevirtual 49, 3) := by decide +kernel
theorem ws_R_part_36 : tm_s M_R_part d u0 Q u S n 36 L st h = tm_T M_R_part d u0 Q u 36 L st h := tm_r_invv dd_R_part_36
theorem ws_R_part_39 : tm_s M_R_part d u0 Q u S n 39 L st h = tm_p1 st (fun x r => (¬ x = 0 → tm_w M_R_part d u0 Q u S n 46 L r h) ∧ (¬ ¬ x = 0 → tm_w M_R_part d u0 Q u S n 42 L r h)) := tm_r_ifne (off := 7) (by decide +kernel) rfl rfl
theorem ws_R_part_42 : tm_s M_R_part d u0 Q u S n 42 L st h = tm_w M_R_part d u0 Q u S n 43 L (.int 3 :: st) h := tm_r_iconst (k := 3) (by decide +kernel) rfl (by decide)
theorem ws_R_part_43 : tm_s M_R_part d u0 Q u S n 43 L st h = tm_w M_R_part d u0 Q u S n 47 L st h := tm_r_goto (off := 4) (by decide +kernel) rfl
theorem ws_R_part_46 : tm_s M_R_part d u0 Q u S n 46 L st h = tm_w M_R_part d u0 Q u S n 47 L (.int 0 :: st) h := tm_r_iconst (k := 0) (by decide +kernel) rfl (by decide)
theorem dd_R_part_47 : decode (tm_cc M_R_part) 47 = .ok (.invokevirtual 53, 3) := by decide +kernel
theorem ws_R_part_47 : tm_s M_R_part d u0 Q u S n 47 L st h = tm_T M_R_part d u0 Q u 47 L st h := tm_r_invv dd_R_part_47
theorem ws_R_part_50 : tm_s M_R_part d u0 Q u S n 50 L st h = tm_p1 st (fun x r => (x = 0 → tm_w M_R_part d u0 Q u S n 55 L r h) ∧ (¬ x = 0 → tm_w M_R_part d u0 Q u S n 53 L r h)) := tm_r_ifeq (off := 5) (by decide +kernel) rfl rfl
theorem ws_R_part_53 : tm_s M_R_part d u0 Q u S n 53 L st h = tm_w M_R_part d u0 Q u S n 54 L (.int 0 :: st) h := tm_r_iconst (k := 0) (by decide +kernel) rfl (by decide)
theorem ws_R_part_54 : tm_s M_R_part d u0 Q u S n 54 L st h = tm_p1 st (fun x r => r = [] ∧ Q (.inl (some (.int x))) h) := tm_r_iret (by decide +kernel) rfl
theorem ws_R_part_55 : tm_s M_R_part d u0 Q u S n 55 L st h = tm_gA L 0 (fun x => tm_w M_R_part d u0 Q u S n 56 L (.ref x :: st) h) := tm_r_aload_n (i := 0) (by decide +kernel) rfl rfl
theorem ws_R_part_56 : tm_s M_R_part d u0 Q u S n 56 L st h = tm_gI L 1 (fun x => tm_w M_R_part d u0 Q u S n 57 L (.int x :: st) h) := tm_r_iload_n (i := 1) (by decide +kernel) rfl rfl
theorem ws_R_part_57 : tm_s M_R_part d u0 Q u S n 57 L st h = tm_gI L 2 (fun x => tm_w M_R_part d u0 Q u S n 58 L (.int x :: st) h) := tm_r_iload_n (i := 2) (by decide +kernel) rfl rfl
theorem ws_R_part_58 : tm_s M_R_part d u0 Q u S n 58 L st h = tm_gI L 3 (fun x => tm_w M_R_part d u0 Q u S n 59 L (.int x :: st) h) := tm_r_iload_n (i := 3) (by decide +kernel) rfl rfl
theorem ws_R_part_59 : tm_s M_R_part d u0 Q u S n 59 L st h = tm_w M_R_part d u0 Q u S n 60 L (.int 0 :: st) h := tm_r_iconst (k := 0) (by decide +kernel) rfl (by decide)
theorem dd_R_part_60 : decode (tm_cc M_R_part) 60 = .ok (.invokevirtual 56, 3) := by decide +kernel
theorem ws_R_part_60 : tm_s M_R_part d u0 Q u S n 60 L st h = tm_T M_R_part d u0 Q u 60 L st h := tm_r_invv dd_R_part_60
theorem ws_R_part_63 : tm_s M_R_part d u0 Q u S n 63 L st h = tm_gA L 0 (fun x => tm_w M_R_part d u0 Q u S n 64 L (.ref x :: st) h) := tm_r_aload_n (i := 0) (by decide +kernel) rfl rfl
theorem ws_R_part_64 : tm_s M_R_part d u0 Q u S n 64 L st h = tm_gI L 1 (fun x => tm_w M_R_part d u0 Q u S n 65 L (.int x :: st) h) := tm_r_iload_n (i := 1) (by decide +kernel) rfl rfl
theorem dd_R_part_65 : decode (tm_cc M_R_part) 65 = .ok (.invokevirtual 68, 3) := by decide +kernel
theorem ws_R_part_65 : tm_s M_R_part d u0 Q u S n 65 L st h = tm_T M_R_part d u0 Q u 65 L st h := tm_r_invv dd_R_part_65
theorem ws_R_part_68 : tm_s M_R_part d u0 Q u S n 68 L st h = tm_p1 st (fun x r => r = [] ∧ Q (.inl (some (.int x))) h) := tm_r_iret (by decide +kernel) rfl
theorem ws_R_clear_0 : tm_s M_R_clear d u0 Q u S n 0 L st h = tm_gA L 0 (fun x => tm_w M_R_clear d u0 Q u S n 1 L (.ref x :: st) h) := tm_r_aload_n (i := 0) (by decide +kernel) rfl rfl
theorem ws_R_clear_1 : tm_s M_R_clear d u0 Q u S n 1 L st h = tm_gI L 1 (fun x => tm_w M_R_clear d u0 Q u S n 2 L (.int x :: st) h) := tm_r_iload_n (i := 1) (by decide +kernel) rfl rfl
theorem dd_R_clear_2 : decode (tm_cc M_R_clear) 2 = .ok (.invokestatic 45, 3) := by decide +kernel
theorem ws_R_clear_2 : tm_s M_R_clear d u0 Q u S n 2 L st h = tm_T M_R_clear d u0 Q u 2 L st h := tm_r_invs dd_R_clear_2
theorem ws_R_clear_5 : tm_s M_R_clear d u0 Q u S n 5 L st h = tm_p1 st (fun x r => (x = 0 → tm_w M_R_clear d u0 Q u S n 12 L r h) ∧ (¬ x = 0 → tm_w M_R_clear d u0 Q u S n 8 L r h)) := tm_r_ifeq (off := 7) (by decide +kernel) rfl rfl
theorem ws_R_clear_8 : tm_s M_R_clear d u0 Q u S n 8 L st h = tm_w M_R_clear d u0 Q u S n 9 L (.int 1 :: st) h := tm_r_iconst (k := 1) (by decide +kernel) rfl (by decide)
theorem ws_R_clear_9 : tm_s M_R_clear d u0 Q u S n 9 L st h = tm_w M_R_clear d u0 Q u S n 13 L st h := tm_r_goto (off := 4) (by decide +kernel) rfl
theorem ws_R_clear_12 : tm_s M_R_clear d u0 Q u S n 12 L st h = tm_w M_R_clear d u0 Q u S n 13 L (.int 0 :: st) h := tm_r_iconst (k := 0) (by decide +kernel) rfl (by decide)
theorem dd_R_clear_13 : decode (tm_cc M_R_clear) 13 = .ok (.invokevirtual 53, 3) := by decide +kernel
theorem ws_R_clear_13 : tm_s M_R_clear d u0 Q u S n 13 L st h = tm_T M_R_clear d u0 Q u 13 L st h := tm_r_invv dd_R_clear_13
theorem ws_R_clear_16 : tm_s M_R_clear d u0 Q u S n 16 L st h = tm_p1 st (fun x r => (x = 0 → tm_w M_R_clear d u0 Q u S n 21 L r h) ∧ (¬ x = 0 → tm_w M_R_clear d u0 Q u S n 19 L r h)) := tm_r_ifeq (off := 5) (by decide +kernel) rfl rfl
theorem ws_R_clear_19 : tm_s M_R_clear d u0 Q u S n 19 L st h = tm_w M_R_clear d u0 Q u S n 20 L (.int 0 :: st) h := tm_r_iconst (k := 0) (by decide +kernel) rfl (by decide)
theorem ws_R_clear_20 : tm_s M_R_clear d u0 Q u S n 20 L st h = tm_p1 st (fun x r => r = [] ∧ Q (.inl (some (.int x))) h) := tm_r_iret (by decide +kernel) rfl
theorem ws_R_clear_21 : tm_s M_R_clear d u0 Q u S n 21 L st h = tm_gA L 0 (fun x => tm_w M_R_clear d u0 Q u S n 22 L (.ref x :: st) h) := tm_r_aload_n (i := 0) (by decide +kernel) rfl rfl
theorem ws_R_clear_22 : tm_s M_R_clear d u0 Q u S n 22 L st h = tm_pA st (fun a r => tm_cO (h a) 5 (fun fs => tm_fv fs 1 (fun v => tm_w M_R_clear d u0 Q u S n 25 L (v :: r) h))) := tm_r_getf (i := 7) (by decide +kernel) rfl (by decide +kernel)
theorem ws_R_clear_25 : tm_s M_R_clear d u0 Q u S n 25 L st h = tm_gI L 1 (fun x => tm_w M_R_clear d u0 Q u S n 26 L (.int x :: st) h) := tm_r_iload_n (i := 1) (by decide +kernel) rfl rfl
theorem ws_R_clear_26 : tm_s M_R_clear d u0 Q u S n 26 L st h = tm_p1 st (fun i r => tm_pA r (fun a r => tm_cI (h a) (fun k f => vp_in i k ∧ tm_w M_R_clear d u0 Q u S n 27 L (.int (f i.toNatClampNeg) :: r) h))) := tm_r_iaload (by decide +kernel) rfl
theorem ws_R_clear_27 : tm_s M_R_clear d u0 Q u S n 27 L st h = tm_p1 st (fun x r => tm_w M_R_clear d u0 Q u S n 28 (L.set 2 (some (.int x))) r h) := tm_r_istore_n (i := 2) (by decide +kernel) rfl rfl (by decide)
theorem ws_R_clear_28 : tm_s M_R_clear d u0 Q u S n 28 L st h = tm_gA L 0 (fun x => tm_w M_R_clear d u0 Q u S n 29 L (.ref x :: st) h) := tm_r_aload_n (i := 0) (by decide +kernel) rfl rfl
theorem ws_R_clear_29 : tm_s M_R_clear d u0 Q u S n 29 L st h = tm_pA st (fun a r => tm_cO (h a) 5 (fun fs => tm_fv fs 1 (fun v => tm_w M_R_clear d u0 Q u S n 32 L (v :: r) h))) := tm_r_getf (i := 7) (by decide +kernel) rfl (by decide +kernel)
theorem ws_R_clear_32 : tm_s M_R_clear d u0 Q u S n 32 L st h = tm_gI L 1 (fun x => tm_w M_R_clear d u0 Q u S n 33 L (.int x :: st) h) := tm_r_iload_n (i := 1) (by decide +kernel) rfl rfl
theorem ws_R_clear_33 : tm_s M_R_clear d u0 Q u S n 33 L st h = tm_w M_R_clear d u0 Q u S n 34 L (.int 0 :: st) h := tm_r_iconst (k := 0) (by decide +kernel) rfl (by decide)
theorem ws_R_clear_34 : tm_s M_R_clear d u0 Q u S n 34 L st h = tm_p1 st (fun x r => tm_p1 r (fun i r => tm_pA r (fun a r => tm_cI (h a) (fun k f => a < tm_K ∧ vp_in i k ∧ tm_w M_R_clear d u0 Q u S n 35 L r (tm_up h a (tm_i k (upd f i.toNatClampNeg x))))))) := tm_r_iastore (by decide +kernel) rfl
theorem ws_R_clear_35 : tm_s M_R_clear d u0 Q u S n 35 L st h = tm_gI L 2 (fun x => tm_w M_R_clear d u0 Q u S n 36 L (.int x :: st) h) := tm_r_iload_n (i := 2) (by decide +kernel) rfl rfl
theorem ws_R_clear_36 : tm_s M_R_clear d u0 Q u S n 36 L st h = tm_p1 st (fun x r => r = [] ∧ Q (.inl (some (.int x))) h) := tm_r_iret (by decide +kernel) rfl
theorem ws_R_copy_0 : tm_s M_R_copy d u0 Q u S n 0 L st h = tm_gA L 0 (fun x => tm_w M_R_copy d u0 Q u S n 1 L (.ref x :: st) h) := tm_r_aload_n (i := 0) (by decide +kernel) rfl rfl
theorem ws_R_copy_1 : tm_s M_R_copy d u0 Q u S n 1 L st h = tm_gI L 1 (fun x => tm_w M_R_copy d u0 Q u S n 2 L (.int x :: st) h) := tm_r_iload_n (i := 1) (by decide +kernel) rfl rfl
theorem dd_R_copy_2 : decode (tm_cc M_R_copy) 2 = .ok (.invokestatic 45, 3) := by decide +kernel
theorem ws_R_copy_2 : tm_s M_R_copy d u0 Q u S n 2 L st h = tm_T M_R_copy d u0 Q u 2 L st h := tm_r_invs dd_R_copy_2
theorem ws_R_copy_5 : tm_s M_R_copy d u0 Q u S n 5 L st h = tm_p1 st (fun x r => (¬ x = 0 → tm_w M_R_copy d u0 Q u S n 15 L r h) ∧ (¬ ¬ x = 0 → tm_w M_R_copy d u0 Q u S n 8 L r h)) := tm_r_ifne (off := 10) (by decide +kernel) rfl rfl
theorem ws_R_copy_8 : tm_s M_R_copy d u0 Q u S n 8 L st h = tm_gI L 2 (fun x => tm_w M_R_copy d u0 Q u S n 9 L (.int x :: st) h) := tm_r_iload_n (i := 2) (by decide +kernel) rfl rfl
theorem dd_R_copy_9 : decode (tm_cc M_R_copy) 9 = .ok (.invokestatic 45, 3) := by decide +kernel
theorem ws_R_copy_9 : tm_s M_R_copy d u0 Q u S n 9 L st h = tm_T M_R_copy d u0 Q u 9 L st h := tm_r_invs dd_R_copy_9
theorem ws_R_copy_12 : tm_s M_R_copy d u0 Q u S n 12 L st h = tm_p1 st (fun x r => (x = 0 → tm_w M_R_copy d u0 Q u S n 19 L r h) ∧ (¬ x = 0 → tm_w M_R_copy d u0 Q u S n 15 L r h)) := tm_r_ifeq (off := 7) (by decide +kernel) rfl rfl
theorem ws_R_copy_15 : tm_s M_R_copy d u0 Q u S n 15 L st h = tm_w M_R_copy d u0 Q u S n 16 L (.int 1 :: st) h := tm_r_iconst (k := 1) (by decide +kernel) rfl (by decide)
theorem ws_R_copy_16 : tm_s M_R_copy d u0 Q u S n 16 L st h = tm_w M_R_copy d u0 Q u S n 20 L st h := tm_r_goto (off := 4) (by decide +kernel) rfl
theorem ws_R_copy_19 : tm_s M_R_copy d u0 Q u S n 19 L st h = tm_w M_R_copy d u0 Q u S n 20 L (.int 0 :: st) h := tm_r_iconst (k := 0) (by decide +kernel) rfl (by decide)
theorem dd_R_copy_20 : decode (tm_cc M_R_copy) 20 = .ok (.invokevirtual 53, 3) := by decide +kernel
theorem ws_R_copy_20 : tm_s M_R_copy d u0 Q u S n 20 L st h = tm_T M_R_copy d u0 Q u 20 L st h := tm_r_invv dd_R_copy_20
theorem ws_R_copy_23 : tm_s M_R_copy d u0 Q u S n 23 L st h = tm_p1 st (fun x r => (x = 0 → tm_w M_R_copy d u0 Q u S n 28 L r h) ∧ (¬ x = 0 → tm_w M_R_copy d u0 Q u S n 26 L r h)) := tm_r_ifeq (off := 5) (by decide +kernel) rfl rfl
theorem ws_R_copy_26 : tm_s M_R_copy d u0 Q u S n 26 L st h = tm_w M_R_copy d u0 Q u S n 27 L (.int 0 :: st) h := tm_r_iconst (k := 0) (by decide +kernel) rfl (by decide)
theorem ws_R_copy_27 : tm_s M_R_copy d u0 Q u S n 27 L st h = tm_p1 st (fun x r => r = [] ∧ Q (.inl (some (.int x))) h) := tm_r_iret (by decide +kernel) rfl
theorem ws_R_copy_28 : tm_s M_R_copy d u0 Q u S n 28 L st h = tm_gA L 0 (fun x => tm_w M_R_copy d u0 Q u S n 29 L (.ref x :: st) h) := tm_r_aload_n (i := 0) (by decide +kernel) rfl rfl
theorem ws_R_copy_29 : tm_s M_R_copy d u0 Q u S n 29 L st h = tm_pA st (fun a r => tm_cO (h a) 5 (fun fs => tm_fv fs 1 (fun v => tm_w M_R_copy d u0 Q u S n 32 L (v :: r) h))) := tm_r_getf (i := 7) (by decide +kernel) rfl (by decide +kernel)
theorem ws_R_copy_32 : tm_s M_R_copy d u0 Q u S n 32 L st h = tm_gI L 1 (fun x => tm_w M_R_copy d u0 Q u S n 33 L (.int x :: st) h) := tm_r_iload_n (i := 1) (by decide +kernel) rfl rfl
theorem ws_R_copy_33 : tm_s M_R_copy d u0 Q u S n 33 L st h = tm_gA L 0 (fun x => tm_w M_R_copy d u0 Q u S n 34 L (.ref x :: st) h) := tm_r_aload_n (i := 0) (by decide +kernel) rfl rfl
theorem ws_R_copy_34 : tm_s M_R_copy d u0 Q u S n 34 L st h = tm_pA st (fun a r => tm_cO (h a) 5 (fun fs => tm_fv fs 1 (fun v => tm_w M_R_copy d u0 Q u S n 37 L (v :: r) h))) := tm_r_getf (i := 7) (by decide +kernel) rfl (by decide +kernel)
theorem ws_R_copy_37 : tm_s M_R_copy d u0 Q u S n 37 L st h = tm_gI L 2 (fun x => tm_w M_R_copy d u0 Q u S n 38 L (.int x :: st) h) := tm_r_iload_n (i := 2) (by decide +kernel) rfl rfl
theorem ws_R_copy_38 : tm_s M_R_copy d u0 Q u S n 38 L st h = tm_p1 st (fun i r => tm_pA r (fun a r => tm_cI (h a) (fun k f => vp_in i k ∧ tm_w M_R_copy d u0 Q u S n 39 L (.int (f i.toNatClampNeg) :: r) h))) := tm_r_iaload (by decide +kernel) rfl
theorem ws_R_copy_39 : tm_s M_R_copy d u0 Q u S n 39 L st h = tm_p1 st (fun x r => tm_p1 r (fun i r => tm_pA r (fun a r => tm_cI (h a) (fun k f => a < tm_K ∧ vp_in i k ∧ tm_w M_R_copy d u0 Q u S n 40 L r (tm_up h a (tm_i k (upd f i.toNatClampNeg x))))))) := tm_r_iastore (by decide +kernel) rfl
theorem ws_R_copy_40 : tm_s M_R_copy d u0 Q u S n 40 L st h = tm_w M_R_copy d u0 Q u S n 41 L (.int 0 :: st) h := tm_r_iconst (k := 0) (by decide +kernel) rfl (by decide)
theorem ws_R_copy_41 : tm_s M_R_copy d u0 Q u S n 41 L st h = tm_p1 st (fun x r => tm_w M_R_copy d u0 Q u S n 42 (L.set 3 (some (.int x))) r h) := tm_r_istore_n (i := 3) (by decide +kernel) rfl rfl (by decide)
theorem ws_R_copy_42 : tm_s M_R_copy d u0 Q u S n 42 L st h = tm_gI L 3 (fun x => tm_w M_R_copy d u0 Q u S n 43 L (.int x :: st) h) := tm_r_iload_n (i := 3) (by decide +kernel) rfl rfl
theorem ws_R_copy_43 : tm_s M_R_copy d u0 Q u S n 43 L st h = tm_w M_R_copy d u0 Q u S n 45 L (.int 7 :: st) h := tm_r_bipush (k := 7) (by decide +kernel) rfl (by decide)
theorem ws_R_copy_45 : tm_s M_R_copy d u0 Q u S n 45 L st h = tm_p1 st (fun y r => tm_p1 r (fun x r => (y ≤ x → tm_w M_R_copy d u0 Q u S n 76 L r h) ∧ (¬ y ≤ x → tm_w M_R_copy d u0 Q u S n 48 L r h))) := tm_r_icge (off := 31) (by decide +kernel) rfl rfl
theorem ws_R_copy_48 : tm_s M_R_copy d u0 Q u S n 48 L st h = tm_gA L 0 (fun x => tm_w M_R_copy d u0 Q u S n 49 L (.ref x :: st) h) := tm_r_aload_n (i := 0) (by decide +kernel) rfl rfl
theorem ws_R_copy_49 : tm_s M_R_copy d u0 Q u S n 49 L st h = tm_pA st (fun a r => tm_cO (h a) 5 (fun fs => tm_fv fs 2 (fun v => tm_w M_R_copy d u0 Q u S n 52 L (v :: r) h))) := tm_r_getf (i := 13) (by decide +kernel) rfl (by decide +kernel)
theorem ws_R_copy_52 : tm_s M_R_copy d u0 Q u S n 52 L st h = tm_w M_R_copy d u0 Q u S n 54 L (.int 7 :: st) h := tm_r_bipush (k := 7) (by decide +kernel) rfl (by decide)
theorem ws_R_copy_54 : tm_s M_R_copy d u0 Q u S n 54 L st h = tm_gI L 1 (fun x => tm_w M_R_copy d u0 Q u S n 55 L (.int x :: st) h) := tm_r_iload_n (i := 1) (by decide +kernel) rfl rfl
theorem ws_R_copy_55 : tm_s M_R_copy d u0 Q u S n 55 L st h = tm_p1 st (fun y r => tm_p1 r (fun x r => tm_w M_R_copy d u0 Q u S n 56 L (.int (x * y) :: r) h)) := tm_r_imul (by decide +kernel) rfl
theorem ws_R_copy_56 : tm_s M_R_copy d u0 Q u S n 56 L st h = tm_gI L 3 (fun x => tm_w M_R_copy d u0 Q u S n 57 L (.int x :: st) h) := tm_r_iload_n (i := 3) (by decide +kernel) rfl rfl
theorem ws_R_copy_57 : tm_s M_R_copy d u0 Q u S n 57 L st h = tm_p1 st (fun y r => tm_p1 r (fun x r => tm_w M_R_copy d u0 Q u S n 58 L (.int (x + y) :: r) h)) := tm_r_iadd (by decide +kernel) rfl
theorem ws_R_copy_58 : tm_s M_R_copy d u0 Q u S n 58 L st h = tm_gA L 0 (fun x => tm_w M_R_copy d u0 Q u S n 59 L (.ref x :: st) h) := tm_r_aload_n (i := 0) (by decide +kernel) rfl rfl
theorem ws_R_copy_59 : tm_s M_R_copy d u0 Q u S n 59 L st h = tm_pA st (fun a r => tm_cO (h a) 5 (fun fs => tm_fv fs 2 (fun v => tm_w M_R_copy d u0 Q u S n 62 L (v :: r) h))) := tm_r_getf (i := 13) (by decide +kernel) rfl (by decide +kernel)
theorem ws_R_copy_62 : tm_s M_R_copy d u0 Q u S n 62 L st h = tm_w M_R_copy d u0 Q u S n 64 L (.int 7 :: st) h := tm_r_bipush (k := 7) (by decide +kernel) rfl (by decide)
theorem ws_R_copy_64 : tm_s M_R_copy d u0 Q u S n 64 L st h = tm_gI L 2 (fun x => tm_w M_R_copy d u0 Q u S n 65 L (.int x :: st) h) := tm_r_iload_n (i := 2) (by decide +kernel) rfl rfl
theorem ws_R_copy_65 : tm_s M_R_copy d u0 Q u S n 65 L st h = tm_p1 st (fun y r => tm_p1 r (fun x r => tm_w M_R_copy d u0 Q u S n 66 L (.int (x * y) :: r) h)) := tm_r_imul (by decide +kernel) rfl
theorem ws_R_copy_66 : tm_s M_R_copy d u0 Q u S n 66 L st h = tm_gI L 3 (fun x => tm_w M_R_copy d u0 Q u S n 67 L (.int x :: st) h) := tm_r_iload_n (i := 3) (by decide +kernel) rfl rfl
theorem ws_R_copy_67 : tm_s M_R_copy d u0 Q u S n 67 L st h = tm_p1 st (fun y r => tm_p1 r (fun x r => tm_w M_R_copy d u0 Q u S n 68 L (.int (x + y) :: r) h)) := tm_r_iadd (by decide +kernel) rfl
theorem ws_R_copy_68 : tm_s M_R_copy d u0 Q u S n 68 L st h = tm_p1 st (fun i r => tm_pA r (fun a r => tm_cI (h a) (fun k f => vp_in i k ∧ tm_w M_R_copy d u0 Q u S n 69 L (.int (f i.toNatClampNeg) :: r) h))) := tm_r_iaload (by decide +kernel) rfl
theorem ws_R_copy_69 : tm_s M_R_copy d u0 Q u S n 69 L st h = tm_p1 st (fun x r => tm_p1 r (fun i r => tm_pA r (fun a r => tm_cI (h a) (fun k f => a < tm_K ∧ vp_in i k ∧ tm_w M_R_copy d u0 Q u S n 70 L r (tm_up h a (tm_i k (upd f i.toNatClampNeg x))))))) := tm_r_iastore (by decide +kernel) rfl
theorem ws_R_copy_70 : tm_s M_R_copy d u0 Q u S n 70 L st h = tm_gI L 3 (fun x => tm_w M_R_copy d u0 Q u S n 73 (L.set 3 (some (.int (x + 1)))) st h) := tm_r_iinc (j := 3) (k := 1) (by decide +kernel) rfl (by decide) (by decide)
theorem ws_R_copy_73 : tm_s M_R_copy d u0 Q u S n 73 L st h = tm_w M_R_copy d u0 Q u S n 42 L st h := tm_r_goto (off := (-31)) (by decide +kernel) rfl
theorem ws_R_copy_76 : tm_s M_R_copy d u0 Q u S n 76 L st h = tm_w M_R_copy d u0 Q u S n 77 L (.int 0 :: st) h := tm_r_iconst (k := 0) (by decide +kernel) rfl (by decide)
theorem ws_R_copy_77 : tm_s M_R_copy d u0 Q u S n 77 L st h = tm_p1 st (fun x r => tm_w M_R_copy d u0 Q u S n 78 (L.set 3 (some (.int x))) r h) := tm_r_istore_n (i := 3) (by decide +kernel) rfl rfl (by decide)
theorem ws_R_copy_78 : tm_s M_R_copy d u0 Q u S n 78 L st h = tm_gI L 3 (fun x => tm_w M_R_copy d u0 Q u S n 79 L (.int x :: st) h) := tm_r_iload_n (i := 3) (by decide +kernel) rfl rfl
theorem ws_R_copy_79 : tm_s M_R_copy d u0 Q u S n 79 L st h = tm_w M_R_copy d u0 Q u S n 81 L (.int 49 :: st) h := tm_r_bipush (k := 49) (by decide +kernel) rfl (by decide)
theorem ws_R_copy_81 : tm_s M_R_copy d u0 Q u S n 81 L st h = tm_p1 st (fun y r => tm_p1 r (fun x r => (y ≤ x → tm_w M_R_copy d u0 Q u S n 112 L r h) ∧ (¬ y ≤ x → tm_w M_R_copy d u0 Q u S n 84 L r h))) := tm_r_icge (off := 31) (by decide +kernel) rfl rfl
theorem ws_R_copy_84 : tm_s M_R_copy d u0 Q u S n 84 L st h = tm_gA L 0 (fun x => tm_w M_R_copy d u0 Q u S n 85 L (.ref x :: st) h) := tm_r_aload_n (i := 0) (by decide +kernel) rfl rfl
theorem ws_R_copy_85 : tm_s M_R_copy d u0 Q u S n 85 L st h = tm_pA st (fun a r => tm_cO (h a) 5 (fun fs => tm_fv fs 3 (fun v => tm_w M_R_copy d u0 Q u S n 88 L (v :: r) h))) := tm_r_getf (i := 16) (by decide +kernel) rfl (by decide +kernel)
theorem ws_R_copy_88 : tm_s M_R_copy d u0 Q u S n 88 L st h = tm_w M_R_copy d u0 Q u S n 90 L (.int 49 :: st) h := tm_r_bipush (k := 49) (by decide +kernel) rfl (by decide)
theorem ws_R_copy_90 : tm_s M_R_copy d u0 Q u S n 90 L st h = tm_gI L 1 (fun x => tm_w M_R_copy d u0 Q u S n 91 L (.int x :: st) h) := tm_r_iload_n (i := 1) (by decide +kernel) rfl rfl
theorem ws_R_copy_91 : tm_s M_R_copy d u0 Q u S n 91 L st h = tm_p1 st (fun y r => tm_p1 r (fun x r => tm_w M_R_copy d u0 Q u S n 92 L (.int (x * y) :: r) h)) := tm_r_imul (by decide +kernel) rfl
theorem ws_R_copy_92 : tm_s M_R_copy d u0 Q u S n 92 L st h = tm_gI L 3 (fun x => tm_w M_R_copy d u0 Q u S n 93 L (.int x :: st) h) := tm_r_iload_n (i := 3) (by decide +kernel) rfl rfl
theorem ws_R_copy_93 : tm_s M_R_copy d u0 Q u S n 93 L st h = tm_p1 st (fun y r => tm_p1 r (fun x r => tm_w M_R_copy d u0 Q u S n 94 L (.int (x + y) :: r) h)) := tm_r_iadd (by decide +kernel) rfl
theorem ws_R_copy_94 : tm_s M_R_copy d u0 Q u S n 94 L st h = tm_gA L 0 (fun x => tm_w M_R_copy d u0 Q u S n 95 L (.ref x :: st) h) := tm_r_aload_n (i := 0) (by decide +kernel) rfl rfl
theorem ws_R_copy_95 : tm_s M_R_copy d u0 Q u S n 95 L st h = tm_pA st (fun a r => tm_cO (h a) 5 (fun fs => tm_fv fs 3 (fun v => tm_w M_R_copy d u0 Q u S n 98 L (v :: r) h))) := tm_r_getf (i := 16) (by decide +kernel) rfl (by decide +kernel)
theorem ws_R_copy_98 : tm_s M_R_copy d u0 Q u S n 98 L st h = tm_w M_R_copy d u0 Q u S n 100 L (.int 49 :: st) h := tm_r_bipush (k := 49) (by decide +kernel) rfl (by decide)
theorem ws_R_copy_100 : tm_s M_R_copy d u0 Q u S n 100 L st h = tm_gI L 2 (fun x => tm_w M_R_copy d u0 Q u S n 101 L (.int x :: st) h) := tm_r_iload_n (i := 2) (by decide +kernel) rfl rfl
theorem ws_R_copy_101 : tm_s M_R_copy d u0 Q u S n 101 L st h = tm_p1 st (fun y r => tm_p1 r (fun x r => tm_w M_R_copy d u0 Q u S n 102 L (.int (x * y) :: r) h)) := tm_r_imul (by decide +kernel) rfl
theorem ws_R_copy_102 : tm_s M_R_copy d u0 Q u S n 102 L st h = tm_gI L 3 (fun x => tm_w M_R_copy d u0 Q u S n 103 L (.int x :: st) h) := tm_r_iload_n (i := 3) (by decide +kernel) rfl rfl
theorem ws_R_copy_103 : tm_s M_R_copy d u0 Q u S n 103 L st h = tm_p1 st (fun y r => tm_p1 r (fun x r => tm_w M_R_copy d u0 Q u S n 104 L (.int (x + y) :: r) h)) := tm_r_iadd (by decide +kernel) rfl
theorem ws_R_copy_104 : tm_s M_R_copy d u0 Q u S n 104 L st h = tm_p1 st (fun i r => tm_pA r (fun a r => tm_cZ (h a) (fun k f => vp_in i k ∧ tm_w M_R_copy d u0 Q u S n 105 L (.int (f i.toNatClampNeg) :: r) h))) := tm_r_baload (by decide +kernel) rfl
theorem ws_R_copy_105 : tm_s M_R_copy d u0 Q u S n 105 L st h = tm_p1 st (fun x r => tm_p1 r (fun i r => tm_pA r (fun a r => tm_cZ (h a) (fun k f => vp_in i k ∧ tm_w M_R_copy d u0 Q u S n 106 L r (tm_up h a (tm_z k (upd f i.toNatClampNeg (vp_nar .boolean x)))))))) := tm_r_bastore (by decide +kernel) rfl
theorem ws_R_copy_106 : tm_s M_R_copy d u0 Q u S n 106 L st h = tm_gI L 3 (fun x => tm_w M_R_copy d u0 Q u S n 109 (L.set 3 (some (.int (x + 1)))) st h) := tm_r_iinc (j := 3) (k := 1) (by decide +kernel) rfl (by decide) (by decide)
theorem ws_R_copy_109 : tm_s M_R_copy d u0 Q u S n 109 L st h = tm_w M_R_copy d u0 Q u S n 78 L st h := tm_r_goto (off := (-31)) (by decide +kernel) rfl
theorem ws_R_copy_112 : tm_s M_R_copy d u0 Q u S n 112 L st h = tm_gA L 0 (fun x => tm_w M_R_copy d u0 Q u S n 113 L (.ref x :: st) h) := tm_r_aload_n (i := 0) (by decide +kernel) rfl rfl
theorem ws_R_copy_113 : tm_s M_R_copy d u0 Q u S n 113 L st h = tm_pA st (fun a r => tm_cO (h a) 5 (fun fs => tm_fv fs 1 (fun v => tm_w M_R_copy d u0 Q u S n 116 L (v :: r) h))) := tm_r_getf (i := 7) (by decide +kernel) rfl (by decide +kernel)
theorem ws_R_copy_116 : tm_s M_R_copy d u0 Q u S n 116 L st h = tm_gI L 1 (fun x => tm_w M_R_copy d u0 Q u S n 117 L (.int x :: st) h) := tm_r_iload_n (i := 1) (by decide +kernel) rfl rfl
theorem ws_R_copy_117 : tm_s M_R_copy d u0 Q u S n 117 L st h = tm_p1 st (fun i r => tm_pA r (fun a r => tm_cI (h a) (fun k f => vp_in i k ∧ tm_w M_R_copy d u0 Q u S n 118 L (.int (f i.toNatClampNeg) :: r) h))) := tm_r_iaload (by decide +kernel) rfl
theorem ws_R_copy_118 : tm_s M_R_copy d u0 Q u S n 118 L st h = tm_p1 st (fun x r => r = [] ∧ Q (.inl (some (.int x))) h) := tm_r_iret (by decide +kernel) rfl
theorem ws_R_turn_0 : tm_s M_R_turn d u0 Q u S n 0 L st h = tm_gA L 0 (fun x => tm_w M_R_turn d u0 Q u S n 1 L (.ref x :: st) h) := tm_r_aload_n (i := 0) (by decide +kernel) rfl rfl
theorem ws_R_turn_1 : tm_s M_R_turn d u0 Q u S n 1 L st h = tm_gI L 1 (fun x => tm_w M_R_turn d u0 Q u S n 2 L (.int x :: st) h) := tm_r_iload_n (i := 1) (by decide +kernel) rfl rfl
theorem dd_R_turn_2 : decode (tm_cc M_R_turn) 2 = .ok (.invokestatic 45, 3) := by decide +kernel
theorem ws_R_turn_2 : tm_s M_R_turn d u0 Q u S n 2 L st h = tm_T M_R_turn d u0 Q u 2 L st h := tm_r_invs dd_R_turn_2
theorem ws_R_turn_5 : tm_s M_R_turn d u0 Q u S n 5 L st h = tm_p1 st (fun x r => (x = 0 → tm_w M_R_turn d u0 Q u S n 12 L r h) ∧ (¬ x = 0 → tm_w M_R_turn d u0 Q u S n 8 L r h)) := tm_r_ifeq (off := 7) (by decide +kernel) rfl rfl
theorem ws_R_turn_8 : tm_s M_R_turn d u0 Q u S n 8 L st h = tm_w M_R_turn d u0 Q u S n 9 L (.int 1 :: st) h := tm_r_iconst (k := 1) (by decide +kernel) rfl (by decide)
theorem ws_R_turn_9 : tm_s M_R_turn d u0 Q u S n 9 L st h = tm_w M_R_turn d u0 Q u S n 13 L st h := tm_r_goto (off := 4) (by decide +kernel) rfl
theorem ws_R_turn_12 : tm_s M_R_turn d u0 Q u S n 12 L st h = tm_w M_R_turn d u0 Q u S n 13 L (.int 0 :: st) h := tm_r_iconst (k := 0) (by decide +kernel) rfl (by decide)
theorem dd_R_turn_13 : decode (tm_cc M_R_turn) 13 = .ok (.invokevirtual 53, 3) := by decide +kernel
theorem ws_R_turn_13 : tm_s M_R_turn d u0 Q u S n 13 L st h = tm_T M_R_turn d u0 Q u 13 L st h := tm_r_invv dd_R_turn_13
theorem ws_R_turn_16 : tm_s M_R_turn d u0 Q u S n 16 L st h = tm_p1 st (fun x r => (x = 0 → tm_w M_R_turn d u0 Q u S n 21 L r h) ∧ (¬ x = 0 → tm_w M_R_turn d u0 Q u S n 19 L r h)) := tm_r_ifeq (off := 5) (by decide +kernel) rfl rfl
theorem ws_R_turn_19 : tm_s M_R_turn d u0 Q u S n 19 L st h = tm_w M_R_turn d u0 Q u S n 20 L (.int 0 :: st) h := tm_r_iconst (k := 0) (by decide +kernel) rfl (by decide)
theorem ws_R_turn_20 : tm_s M_R_turn d u0 Q u S n 20 L st h = tm_p1 st (fun x r => r = [] ∧ Q (.inl (some (.int x))) h) := tm_r_iret (by decide +kernel) rfl
theorem ws_R_turn_21 : tm_s M_R_turn d u0 Q u S n 21 L st h = tm_w M_R_turn d u0 Q u S n 22 L (.int 0 :: st) h := tm_r_iconst (k := 0) (by decide +kernel) rfl (by decide)
theorem ws_R_turn_22 : tm_s M_R_turn d u0 Q u S n 22 L st h = tm_p1 st (fun x r => tm_w M_R_turn d u0 Q u S n 23 (L.set 2 (some (.int x))) r h) := tm_r_istore_n (i := 2) (by decide +kernel) rfl rfl (by decide)
theorem ws_R_turn_23 : tm_s M_R_turn d u0 Q u S n 23 L st h = tm_gI L 2 (fun x => tm_w M_R_turn d u0 Q u S n 24 L (.int x :: st) h) := tm_r_iload_n (i := 2) (by decide +kernel) rfl rfl
theorem ws_R_turn_24 : tm_s M_R_turn d u0 Q u S n 24 L st h = tm_gA L 0 (fun x => tm_w M_R_turn d u0 Q u S n 25 L (.ref x :: st) h) := tm_r_aload_n (i := 0) (by decide +kernel) rfl rfl
theorem ws_R_turn_25 : tm_s M_R_turn d u0 Q u S n 25 L st h = tm_pA st (fun a r => tm_cO (h a) 5 (fun fs => tm_fv fs 1 (fun v => tm_w M_R_turn d u0 Q u S n 28 L (v :: r) h))) := tm_r_getf (i := 7) (by decide +kernel) rfl (by decide +kernel)
theorem ws_R_turn_28 : tm_s M_R_turn d u0 Q u S n 28 L st h = tm_gI L 1 (fun x => tm_w M_R_turn d u0 Q u S n 29 L (.int x :: st) h) := tm_r_iload_n (i := 1) (by decide +kernel) rfl rfl
theorem ws_R_turn_29 : tm_s M_R_turn d u0 Q u S n 29 L st h = tm_p1 st (fun i r => tm_pA r (fun a r => tm_cI (h a) (fun k f => vp_in i k ∧ tm_w M_R_turn d u0 Q u S n 30 L (.int (f i.toNatClampNeg) :: r) h))) := tm_r_iaload (by decide +kernel) rfl
theorem ws_R_turn_30 : tm_s M_R_turn d u0 Q u S n 30 L st h = tm_p1 st (fun y r => tm_p1 r (fun x r => (y ≤ x → tm_w M_R_turn d u0 Q u S n 74 L r h) ∧ (¬ y ≤ x → tm_w M_R_turn d u0 Q u S n 33 L r h))) := tm_r_icge (off := 44) (by decide +kernel) rfl rfl
theorem ws_R_turn_33 : tm_s M_R_turn d u0 Q u S n 33 L st h = tm_w M_R_turn d u0 Q u S n 34 L (.int 0 :: st) h := tm_r_iconst (k := 0) (by decide +kernel) rfl (by decide)
theorem ws_R_turn_34 : tm_s M_R_turn d u0 Q u S n 34 L st h = tm_p1 st (fun x r => tm_w M_R_turn d u0 Q u S n 35 (L.set 3 (some (.int x))) r h) := tm_r_istore_n (i := 3) (by decide +kernel) rfl rfl (by decide)
theorem ws_R_turn_35 : tm_s M_R_turn d u0 Q u S n 35 L st h = tm_gI L 3 (fun x => tm_w M_R_turn d u0 Q u S n 36 L (.int x :: st) h) := tm_r_iload_n (i := 3) (by decide +kernel) rfl rfl
theorem ws_R_turn_36 : tm_s M_R_turn d u0 Q u S n 36 L st h = tm_gI L 2 (fun x => tm_w M_R_turn d u0 Q u S n 37 L (.int x :: st) h) := tm_r_iload_n (i := 2) (by decide +kernel) rfl rfl
theorem ws_R_turn_37 : tm_s M_R_turn d u0 Q u S n 37 L st h = tm_p1 st (fun y r => tm_p1 r (fun x r => (y ≤ x → tm_w M_R_turn d u0 Q u S n 68 L r h) ∧ (¬ y ≤ x → tm_w M_R_turn d u0 Q u S n 40 L r h))) := tm_r_icge (off := 31) (by decide +kernel) rfl rfl
theorem ws_R_turn_40 : tm_s M_R_turn d u0 Q u S n 40 L st h = tm_gA L 0 (fun x => tm_w M_R_turn d u0 Q u S n 41 L (.ref x :: st) h) := tm_r_aload_n (i := 0) (by decide +kernel) rfl rfl
theorem ws_R_turn_41 : tm_s M_R_turn d u0 Q u S n 41 L st h = tm_gI L 1 (fun x => tm_w M_R_turn d u0 Q u S n 42 L (.int x :: st) h) := tm_r_iload_n (i := 1) (by decide +kernel) rfl rfl
theorem ws_R_turn_42 : tm_s M_R_turn d u0 Q u S n 42 L st h = tm_gI L 2 (fun x => tm_w M_R_turn d u0 Q u S n 43 L (.int x :: st) h) := tm_r_iload_n (i := 2) (by decide +kernel) rfl rfl
theorem ws_R_turn_43 : tm_s M_R_turn d u0 Q u S n 43 L st h = tm_gI L 3 (fun x => tm_w M_R_turn d u0 Q u S n 44 L (.int x :: st) h) := tm_r_iload_n (i := 3) (by decide +kernel) rfl rfl
theorem ws_R_turn_44 : tm_s M_R_turn d u0 Q u S n 44 L st h = tm_gA L 0 (fun x => tm_w M_R_turn d u0 Q u S n 45 L (.ref x :: st) h) := tm_r_aload_n (i := 0) (by decide +kernel) rfl rfl
theorem ws_R_turn_45 : tm_s M_R_turn d u0 Q u S n 45 L st h = tm_gI L 1 (fun x => tm_w M_R_turn d u0 Q u S n 46 L (.int x :: st) h) := tm_r_iload_n (i := 1) (by decide +kernel) rfl rfl
theorem ws_R_turn_46 : tm_s M_R_turn d u0 Q u S n 46 L st h = tm_gI L 2 (fun x => tm_w M_R_turn d u0 Q u S n 47 L (.int x :: st) h) := tm_r_iload_n (i := 2) (by decide +kernel) rfl rfl
theorem ws_R_turn_47 : tm_s M_R_turn d u0 Q u S n 47 L st h = tm_gI L 3 (fun x => tm_w M_R_turn d u0 Q u S n 48 L (.int x :: st) h) := tm_r_iload_n (i := 3) (by decide +kernel) rfl rfl
theorem dd_R_turn_48 : decode (tm_cc M_R_turn) 48 = .ok (.invokevirtual 49, 3) := by decide +kernel
theorem ws_R_turn_48 : tm_s M_R_turn d u0 Q u S n 48 L st h = tm_T M_R_turn d u0 Q u 48 L st h := tm_r_invv dd_R_turn_48
theorem ws_R_turn_51 : tm_s M_R_turn d u0 Q u S n 51 L st h = tm_p1 st (fun x r => (¬ x = 0 → tm_w M_R_turn d u0 Q u S n 58 L r h) ∧ (¬ ¬ x = 0 → tm_w M_R_turn d u0 Q u S n 54 L r h)) := tm_r_ifne (off := 7) (by decide +kernel) rfl rfl
theorem ws_R_turn_54 : tm_s M_R_turn d u0 Q u S n 54 L st h = tm_w M_R_turn d u0 Q u S n 55 L (.int 1 :: st) h := tm_r_iconst (k := 1) (by decide +kernel) rfl (by decide)
theorem ws_R_turn_55 : tm_s M_R_turn d u0 Q u S n 55 L st h = tm_w M_R_turn d u0 Q u S n 59 L st h := tm_r_goto (off := 4) (by decide +kernel) rfl
theorem ws_R_turn_58 : tm_s M_R_turn d u0 Q u S n 58 L st h = tm_w M_R_turn d u0 Q u S n 59 L (.int 0 :: st) h := tm_r_iconst (k := 0) (by decide +kernel) rfl (by decide)
theorem dd_R_turn_59 : decode (tm_cc M_R_turn) 59 = .ok (.invokevirtual 56, 3) := by decide +kernel
theorem ws_R_turn_59 : tm_s M_R_turn d u0 Q u S n 59 L st h = tm_T M_R_turn d u0 Q u 59 L st h := tm_r_invv dd_R_turn_59
theorem ws_R_turn_62 : tm_s M_R_turn d u0 Q u S n 62 L st h = tm_gI L 3 (fun x => tm_w M_R_turn d u0 Q u S n 65 (L.set 3 (some (.int (x + 1)))) st h) := tm_r_iinc (j := 3) (k := 1) (by decide +kernel) rfl (by decide) (by decide)
theorem ws_R_turn_65 : tm_s M_R_turn d u0 Q u S n 65 L st h = tm_w M_R_turn d u0 Q u S n 35 L st h := tm_r_goto (off := (-30)) (by decide +kernel) rfl
theorem ws_R_turn_68 : tm_s M_R_turn d u0 Q u S n 68 L st h = tm_gI L 2 (fun x => tm_w M_R_turn d u0 Q u S n 71 (L.set 2 (some (.int (x + 1)))) st h) := tm_r_iinc (j := 2) (k := 1) (by decide +kernel) rfl (by decide) (by decide)
theorem ws_R_turn_71 : tm_s M_R_turn d u0 Q u S n 71 L st h = tm_w M_R_turn d u0 Q u S n 23 L st h := tm_r_goto (off := (-48)) (by decide +kernel) rfl
theorem ws_R_turn_74 : tm_s M_R_turn d u0 Q u S n 74 L st h = tm_gA L 0 (fun x => tm_w M_R_turn d u0 Q u S n 75 L (.ref x :: st) h) := tm_r_aload_n (i := 0) (by decide +kernel) rfl rfl
theorem ws_R_turn_75 : tm_s M_R_turn d u0 Q u S n 75 L st h = tm_gI L 1 (fun x => tm_w M_R_turn d u0 Q u S n 76 L (.int x :: st) h) := tm_r_iload_n (i := 1) (by decide +kernel) rfl rfl
theorem dd_R_turn_76 : decode (tm_cc M_R_turn) 76 = .ok (.invokevirtual 68, 3) := by decide +kernel
theorem ws_R_turn_76 : tm_s M_R_turn d u0 Q u S n 76 L st h = tm_T M_R_turn d u0 Q u 76 L st h := tm_r_invv dd_R_turn_76
theorem ws_R_turn_79 : tm_s M_R_turn d u0 Q u S n 79 L st h = tm_p1 st (fun x r => r = [] ∧ Q (.inl (some (.int x))) h) := tm_r_iret (by decide +kernel) rfl
theorem ws_R_settle_0 : tm_s M_R_settle d u0 Q u S n 0 L st h = tm_gA L 0 (fun x => tm_w M_R_settle d u0 Q u S n 1 L (.ref x :: st) h) := tm_r_aload_n (i := 0) (by decide +kernel) rfl rfl
theorem ws_R_settle_1 : tm_s M_R_settle d u0 Q u S n 1 L st h = tm_gI L 1 (fun x => tm_w M_R_settle d u0 Q u S n 2 L (.int x :: st) h) := tm_r_iload_n (i := 1) (by decide +kernel) rfl rfl
theorem dd_R_settle_2 : decode (tm_cc M_R_settle) 2 = .ok (.invokestatic 45, 3) := by decide +kernel
theorem ws_R_settle_2 : tm_s M_R_settle d u0 Q u S n 2 L st h = tm_T M_R_settle d u0 Q u 2 L st h := tm_r_invs dd_R_settle_2
theorem ws_R_settle_5 : tm_s M_R_settle d u0 Q u S n 5 L st h = tm_p1 st (fun x r => (x = 0 → tm_w M_R_settle d u0 Q u S n 12 L r h) ∧ (¬ x = 0 → tm_w M_R_settle d u0 Q u S n 8 L r h)) := tm_r_ifeq (off := 7) (by decide +kernel) rfl rfl
theorem ws_R_settle_8 : tm_s M_R_settle d u0 Q u S n 8 L st h = tm_w M_R_settle d u0 Q u S n 9 L (.int 1 :: st) h := tm_r_iconst (k := 1) (by decide +kernel) rfl (by decide)
theorem ws_R_settle_9 : tm_s M_R_settle d u0 Q u S n 9 L st h = tm_w M_R_settle d u0 Q u S n 13 L st h := tm_r_goto (off := 4) (by decide +kernel) rfl
theorem ws_R_settle_12 : tm_s M_R_settle d u0 Q u S n 12 L st h = tm_w M_R_settle d u0 Q u S n 13 L (.int 0 :: st) h := tm_r_iconst (k := 0) (by decide +kernel) rfl (by decide)
theorem dd_R_settle_13 : decode (tm_cc M_R_settle) 13 = .ok (.invokevirtual 53, 3) := by decide +kernel
theorem ws_R_settle_13 : tm_s M_R_settle d u0 Q u S n 13 L st h = tm_T M_R_settle d u0 Q u 13 L st h := tm_r_invv dd_R_settle_13
theorem ws_R_settle_16 : tm_s M_R_settle d u0 Q u S n 16 L st h = tm_p1 st (fun x r => (x = 0 → tm_w M_R_settle d u0 Q u S n 21 L r h) ∧ (¬ x = 0 → tm_w M_R_settle d u0 Q u S n 19 L r h)) := tm_r_ifeq (off := 5) (by decide +kernel) rfl rfl
theorem ws_R_settle_19 : tm_s M_R_settle d u0 Q u S n 19 L st h = tm_w M_R_settle d u0 Q u S n 20 L (.int 0 :: st) h := tm_r_iconst (k := 0) (by decide +kernel) rfl (by decide)
theorem ws_R_settle_20 : tm_s M_R_settle d u0 Q u S n 20 L st h = tm_p1 st (fun x r => r = [] ∧ Q (.inl (some (.int x))) h) := tm_r_iret (by decide +kernel) rfl
theorem ws_R_settle_21 : tm_s M_R_settle d u0 Q u S n 21 L st h = tm_gA L 0 (fun x => tm_w M_R_settle d u0 Q u S n 22 L (.ref x :: st) h) := tm_r_aload_n (i := 0) (by decide +kernel) rfl rfl
theorem ws_R_settle_22 : tm_s M_R_settle d u0 Q u S n 22 L st h = tm_gI L 1 (fun x => tm_w M_R_settle d u0 Q u S n 23 L (.int x :: st) h) := tm_r_iload_n (i := 1) (by decide +kernel) rfl rfl
theorem dd_R_settle_23 : decode (tm_cc M_R_settle) 23 = .ok (.invokevirtual 72, 3) := by decide +kernel
theorem ws_R_settle_23 : tm_s M_R_settle d u0 Q u S n 23 L st h = tm_T M_R_settle d u0 Q u 23 L st h := tm_r_invv dd_R_settle_23
theorem ws_R_settle_26 : tm_s M_R_settle d u0 Q u S n 26 L st h = tm_gA L 0 (fun x => tm_w M_R_settle d u0 Q u S n 27 L (.ref x :: st) h) := tm_r_aload_n (i := 0) (by decide +kernel) rfl rfl
theorem ws_R_settle_27 : tm_s M_R_settle d u0 Q u S n 27 L st h = tm_pA st (fun a r => tm_cO (h a) 5 (fun fs => tm_fv fs 1 (fun v => tm_w M_R_settle d u0 Q u S n 30 L (v :: r) h))) := tm_r_getf (i := 7) (by decide +kernel) rfl (by decide +kernel)
theorem ws_R_settle_30 : tm_s M_R_settle d u0 Q u S n 30 L st h = tm_gI L 1 (fun x => tm_w M_R_settle d u0 Q u S n 31 L (.int x :: st) h) := tm_r_iload_n (i := 1) (by decide +kernel) rfl rfl
theorem ws_R_settle_31 : tm_s M_R_settle d u0 Q u S n 31 L st h = tm_p1 st (fun i r => tm_pA r (fun a r => tm_cI (h a) (fun k f => vp_in i k ∧ tm_w M_R_settle d u0 Q u S n 32 L (.int (f i.toNatClampNeg) :: r) h))) := tm_r_iaload (by decide +kernel) rfl
theorem ws_R_settle_32 : tm_s M_R_settle d u0 Q u S n 32 L st h = tm_p1 st (fun x r => tm_w M_R_settle d u0 Q u S n 33 (L.set 2 (some (.int x))) r h) := tm_r_istore_n (i := 2) (by decide +kernel) rfl rfl (by decide)
theorem ws_R_settle_33 : tm_s M_R_settle d u0 Q u S n 33 L st h = tm_w M_R_settle d u0 Q u S n 34 L (.int 0 :: st) h := tm_r_iconst (k := 0) (by decide +kernel) rfl (by decide)
theorem ws_R_settle_34 : tm_s M_R_settle d u0 Q u S n 34 L st h = tm_p1 st (fun x r => tm_w M_R_settle d u0 Q u S n 35 (L.set 3 (some (.int x))) r h) := tm_r_istore_n (i := 3) (by decide +kernel) rfl rfl (by decide)
theorem ws_R_settle_35 : tm_s M_R_settle d u0 Q u S n 35 L st h = tm_w M_R_settle d u0 Q u S n 36 L (.int 0 :: st) h := tm_r_iconst (k := 0) (by decide +kernel) rfl (by decide)
theorem ws_R_settle_36 : tm_s M_R_settle d u0 Q u S n 36 L st h = tm_p1 st (fun x r => tm_w M_R_settle d u0 Q u S n 38 (L.set 4 (some (.int x))) r h) := tm_r_istore (j := 4) (by decide +kernel) rfl (by decide)
theorem ws_R_settle_38 : tm_s M_R_settle d u0 Q u S n 38 L st h = tm_gI L 4 (fun x => tm_w M_R_settle d u0 Q u S n 40 L (.int x :: st) h) := tm_r_iload (j := 4) (by decide +kernel) rfl
theorem ws_R_settle_40 : tm_s M_R_settle d u0 Q u S n 40 L st h = tm_gI L 2 (fun x => tm_w M_R_settle d u0 Q u S n 41 L (.int x :: st) h) := tm_r_iload_n (i := 2) (by decide +kernel) rfl rfl
theorem ws_R_settle_41 : tm_s M_R_settle d u0 Q u S n 41 L st h = tm_p1 st (fun y r => tm_p1 r (fun x r => (y ≤ x → tm_w M_R_settle d u0 Q u S n 136 L r h) ∧ (¬ y ≤ x → tm_w M_R_settle d u0 Q u S n 44 L r h))) := tm_r_icge (off := 95) (by decide +kernel) rfl rfl
theorem ws_R_settle_44 : tm_s M_R_settle d u0 Q u S n 44 L st h = tm_gA L 0 (fun x => tm_w M_R_settle d u0 Q u S n 45 L (.ref x :: st) h) := tm_r_aload_n (i := 0) (by decide +kernel) rfl rfl
theorem ws_R_settle_45 : tm_s M_R_settle d u0 Q u S n 45 L st h = tm_pA st (fun a r => tm_cO (h a) 5 (fun fs => tm_fv fs 5 (fun v => tm_w M_R_settle d u0 Q u S n 48 L (v :: r) h))) := tm_r_getf (i := 23) (by decide +kernel) rfl (by decide +kernel)
theorem ws_R_settle_48 : tm_s M_R_settle d u0 Q u S n 48 L st h = tm_gI L 4 (fun x => tm_w M_R_settle d u0 Q u S n 50 L (.int x :: st) h) := tm_r_iload (j := 4) (by decide +kernel) rfl
theorem ws_R_settle_50 : tm_s M_R_settle d u0 Q u S n 50 L st h = tm_p1 st (fun i r => tm_pA r (fun a r => tm_cI (h a) (fun k f => vp_in i k ∧ tm_w M_R_settle d u0 Q u S n 51 L (.int (f i.toNatClampNeg) :: r) h))) := tm_r_iaload (by decide +kernel) rfl
theorem ws_R_settle_51 : tm_s M_R_settle d u0 Q u S n 51 L st h = tm_gI L 4 (fun x => tm_w M_R_settle d u0 Q u S n 53 L (.int x :: st) h) := tm_r_iload (j := 4) (by decide +kernel) rfl
theorem ws_R_settle_53 : tm_s M_R_settle d u0 Q u S n 53 L st h = tm_p1 st (fun y r => tm_p1 r (fun x r => (¬ x = y → tm_w M_R_settle d u0 Q u S n 60 L r h) ∧ (¬ ¬ x = y → tm_w M_R_settle d u0 Q u S n 56 L r h))) := tm_r_icne (off := 7) (by decide +kernel) rfl rfl
theorem ws_R_settle_56 : tm_s M_R_settle d u0 Q u S n 56 L st h = tm_gI L 3 (fun x => tm_w M_R_settle d u0 Q u S n 57 L (.int x :: st) h) := tm_r_iload_n (i := 3) (by decide +kernel) rfl rfl
theorem ws_R_settle_57 : tm_s M_R_settle d u0 Q u S n 57 L st h = tm_w M_R_settle d u0 Q u S n 63 L st h := tm_r_goto (off := 6) (by decide +kernel) rfl
theorem ws_R_settle_60 : tm_s M_R_settle d u0 Q u S n 60 L st h = tm_gI L 3 (fun x => tm_w M_R_settle d u0 Q u S n 61 L (.int x :: st) h) := tm_r_iload_n (i := 3) (by decide +kernel) rfl rfl
theorem ws_R_settle_61 : tm_s M_R_settle d u0 Q u S n 61 L st h = tm_w M_R_settle d u0 Q u S n 62 L (.int 1 :: st) h := tm_r_iconst (k := 1) (by decide +kernel) rfl (by decide)
theorem ws_R_settle_62 : tm_s M_R_settle d u0 Q u S n 62 L st h = tm_p1 st (fun y r => tm_p1 r (fun x r => tm_w M_R_settle d u0 Q u S n 63 L (.int (x + y) :: r) h)) := tm_r_iadd (by decide +kernel) rfl
theorem ws_R_settle_63 : tm_s M_R_settle d u0 Q u S n 63 L st h = tm_p1 st (fun x r => tm_w M_R_settle d u0 Q u S n 64 (L.set 3 (some (.int x))) r h) := tm_r_istore_n (i := 3) (by decide +kernel) rfl rfl (by decide)
theorem ws_R_settle_64 : tm_s M_R_settle d u0 Q u S n 64 L st h = tm_gA L 0 (fun x => tm_w M_R_settle d u0 Q u S n 65 L (.ref x :: st) h) := tm_r_aload_n (i := 0) (by decide +kernel) rfl rfl
theorem ws_R_settle_65 : tm_s M_R_settle d u0 Q u S n 65 L st h = tm_pA st (fun a r => tm_cO (h a) 5 (fun fs => tm_fv fs 11 (fun v => tm_w M_R_settle d u0 Q u S n 68 L (v :: r) h))) := tm_r_getf (i := 35) (by decide +kernel) rfl (by decide +kernel)
theorem ws_R_settle_68 : tm_s M_R_settle d u0 Q u S n 68 L st h = tm_gI L 4 (fun x => tm_w M_R_settle d u0 Q u S n 70 L (.int x :: st) h) := tm_r_iload (j := 4) (by decide +kernel) rfl
theorem ws_R_settle_70 : tm_s M_R_settle d u0 Q u S n 70 L st h = tm_gA L 0 (fun x => tm_w M_R_settle d u0 Q u S n 71 L (.ref x :: st) h) := tm_r_aload_n (i := 0) (by decide +kernel) rfl rfl
theorem ws_R_settle_71 : tm_s M_R_settle d u0 Q u S n 71 L st h = tm_gI L 1 (fun x => tm_w M_R_settle d u0 Q u S n 72 L (.int x :: st) h) := tm_r_iload_n (i := 1) (by decide +kernel) rfl rfl
theorem ws_R_settle_72 : tm_s M_R_settle d u0 Q u S n 72 L st h = tm_gA L 0 (fun x => tm_w M_R_settle d u0 Q u S n 73 L (.ref x :: st) h) := tm_r_aload_n (i := 0) (by decide +kernel) rfl rfl
theorem ws_R_settle_73 : tm_s M_R_settle d u0 Q u S n 73 L st h = tm_pA st (fun a r => tm_cO (h a) 5 (fun fs => tm_fv fs 5 (fun v => tm_w M_R_settle d u0 Q u S n 76 L (v :: r) h))) := tm_r_getf (i := 23) (by decide +kernel) rfl (by decide +kernel)
theorem ws_R_settle_76 : tm_s M_R_settle d u0 Q u S n 76 L st h = tm_gI L 4 (fun x => tm_w M_R_settle d u0 Q u S n 78 L (.int x :: st) h) := tm_r_iload (j := 4) (by decide +kernel) rfl
theorem ws_R_settle_78 : tm_s M_R_settle d u0 Q u S n 78 L st h = tm_p1 st (fun i r => tm_pA r (fun a r => tm_cI (h a) (fun k f => vp_in i k ∧ tm_w M_R_settle d u0 Q u S n 79 L (.int (f i.toNatClampNeg) :: r) h))) := tm_r_iaload (by decide +kernel) rfl
theorem dd_R_settle_79 : decode (tm_cc M_R_settle) 79 = .ok (.invokevirtual 64, 3) := by decide +kernel
theorem ws_R_settle_79 : tm_s M_R_settle d u0 Q u S n 79 L st h = tm_T M_R_settle d u0 Q u 79 L st h := tm_r_invv dd_R_settle_79
theorem ws_R_settle_82 : tm_s M_R_settle d u0 Q u S n 82 L st h = tm_p1 st (fun x r => tm_p1 r (fun i r => tm_pA r (fun a r => tm_cI (h a) (fun k f => a < tm_K ∧ vp_in i k ∧ tm_w M_R_settle d u0 Q u S n 83 L r (tm_up h a (tm_i k (upd f i.toNatClampNeg x))))))) := tm_r_iastore (by decide +kernel) rfl
theorem ws_R_settle_83 : tm_s M_R_settle d u0 Q u S n 83 L st h = tm_w M_R_settle d u0 Q u S n 84 L (.int 0 :: st) h := tm_r_iconst (k := 0) (by decide +kernel) rfl (by decide)
theorem ws_R_settle_84 : tm_s M_R_settle d u0 Q u S n 84 L st h = tm_p1 st (fun x r => tm_w M_R_settle d u0 Q u S n 86 (L.set 5 (some (.int x))) r h) := tm_r_istore (j := 5) (by decide +kernel) rfl (by decide)
theorem ws_R_settle_86 : tm_s M_R_settle d u0 Q u S n 86 L st h = tm_gI L 5 (fun x => tm_w M_R_settle d u0 Q u S n 88 L (.int x :: st) h) := tm_r_iload (j := 5) (by decide +kernel) rfl
theorem ws_R_settle_88 : tm_s M_R_settle d u0 Q u S n 88 L st h = tm_gI L 2 (fun x => tm_w M_R_settle d u0 Q u S n 89 L (.int x :: st) h) := tm_r_iload_n (i := 2) (by decide +kernel) rfl rfl
theorem ws_R_settle_89 : tm_s M_R_settle d u0 Q u S n 89 L st h = tm_p1 st (fun y r => tm_p1 r (fun x r => (y ≤ x → tm_w M_R_settle d u0 Q u S n 130 L r h) ∧ (¬ y ≤ x → tm_w M_R_settle d u0 Q u S n 92 L r h))) := tm_r_icge (off := 41) (by decide +kernel) rfl rfl
theorem ws_R_settle_92 : tm_s M_R_settle d u0 Q u S n 92 L st h = tm_gA L 0 (fun x => tm_w M_R_settle d u0 Q u S n 93 L (.ref x :: st) h) := tm_r_aload_n (i := 0) (by decide +kernel) rfl rfl
theorem ws_R_settle_93 : tm_s M_R_settle d u0 Q u S n 93 L st h = tm_pA st (fun a r => tm_cO (h a) 5 (fun fs => tm_fv fs 12 (fun v => tm_w M_R_settle d u0 Q u S n 96 L (v :: r) h))) := tm_r_getf (i := 38) (by decide +kernel) rfl (by decide +kernel)
theorem ws_R_settle_96 : tm_s M_R_settle d u0 Q u S n 96 L st h = tm_w M_R_settle d u0 Q u S n 98 L (.int 7 :: st) h := tm_r_bipush (k := 7) (by decide +kernel) rfl (by decide)
theorem ws_R_settle_98 : tm_s M_R_settle d u0 Q u S n 98 L st h = tm_gI L 4 (fun x => tm_w M_R_settle d u0 Q u S n 100 L (.int x :: st) h) := tm_r_iload (j := 4) (by decide +kernel) rfl
theorem ws_R_settle_100 : tm_s M_R_settle d u0 Q u S n 100 L st h = tm_p1 st (fun y r => tm_p1 r (fun x r => tm_w M_R_settle d u0 Q u S n 101 L (.int (x * y) :: r) h)) := tm_r_imul (by decide +kernel) rfl
theorem ws_R_settle_101 : tm_s M_R_settle d u0 Q u S n 101 L st h = tm_gI L 5 (fun x => tm_w M_R_settle d u0 Q u S n 103 L (.int x :: st) h) := tm_r_iload (j := 5) (by decide +kernel) rfl
theorem ws_R_settle_103 : tm_s M_R_settle d u0 Q u S n 103 L st h = tm_p1 st (fun y r => tm_p1 r (fun x r => tm_w M_R_settle d u0 Q u S n 104 L (.int (x + y) :: r) h)) := tm_r_iadd (by decide +kernel) rfl
theorem ws_R_settle_104 : tm_s M_R_settle d u0 Q u S n 104 L st h = tm_gA L 0 (fun x => tm_w M_R_settle d u0 Q u S n 105 L (.ref x :: st) h) := tm_r_aload_n (i := 0) (by decide +kernel) rfl rfl
theorem ws_R_settle_105 : tm_s M_R_settle d u0 Q u S n 105 L st h = tm_gI L 1 (fun x => tm_w M_R_settle d u0 Q u S n 106 L (.int x :: st) h) := tm_r_iload_n (i := 1) (by decide +kernel) rfl rfl
theorem ws_R_settle_106 : tm_s M_R_settle d u0 Q u S n 106 L st h = tm_gA L 0 (fun x => tm_w M_R_settle d u0 Q u S n 107 L (.ref x :: st) h) := tm_r_aload_n (i := 0) (by decide +kernel) rfl rfl
theorem ws_R_settle_107 : tm_s M_R_settle d u0 Q u S n 107 L st h = tm_pA st (fun a r => tm_cO (h a) 5 (fun fs => tm_fv fs 5 (fun v => tm_w M_R_settle d u0 Q u S n 110 L (v :: r) h))) := tm_r_getf (i := 23) (by decide +kernel) rfl (by decide +kernel)
theorem ws_R_settle_110 : tm_s M_R_settle d u0 Q u S n 110 L st h = tm_gI L 4 (fun x => tm_w M_R_settle d u0 Q u S n 112 L (.int x :: st) h) := tm_r_iload (j := 4) (by decide +kernel) rfl
theorem ws_R_settle_112 : tm_s M_R_settle d u0 Q u S n 112 L st h = tm_p1 st (fun i r => tm_pA r (fun a r => tm_cI (h a) (fun k f => vp_in i k ∧ tm_w M_R_settle d u0 Q u S n 113 L (.int (f i.toNatClampNeg) :: r) h))) := tm_r_iaload (by decide +kernel) rfl
theorem ws_R_settle_113 : tm_s M_R_settle d u0 Q u S n 113 L st h = tm_gA L 0 (fun x => tm_w M_R_settle d u0 Q u S n 114 L (.ref x :: st) h) := tm_r_aload_n (i := 0) (by decide +kernel) rfl rfl
theorem ws_R_settle_114 : tm_s M_R_settle d u0 Q u S n 114 L st h = tm_pA st (fun a r => tm_cO (h a) 5 (fun fs => tm_fv fs 5 (fun v => tm_w M_R_settle d u0 Q u S n 117 L (v :: r) h))) := tm_r_getf (i := 23) (by decide +kernel) rfl (by decide +kernel)
theorem ws_R_settle_117 : tm_s M_R_settle d u0 Q u S n 117 L st h = tm_gI L 5 (fun x => tm_w M_R_settle d u0 Q u S n 119 L (.int x :: st) h) := tm_r_iload (j := 5) (by decide +kernel) rfl
theorem ws_R_settle_119 : tm_s M_R_settle d u0 Q u S n 119 L st h = tm_p1 st (fun i r => tm_pA r (fun a r => tm_cI (h a) (fun k f => vp_in i k ∧ tm_w M_R_settle d u0 Q u S n 120 L (.int (f i.toNatClampNeg) :: r) h))) := tm_r_iaload (by decide +kernel) rfl
theorem dd_R_settle_120 : decode (tm_cc M_R_settle) 120 = .ok (.invokevirtual 49, 3) := by decide +kernel
theorem ws_R_settle_120 : tm_s M_R_settle d u0 Q u S n 120 L st h = tm_T M_R_settle d u0 Q u 120 L st h := tm_r_invv dd_R_settle_120
theorem ws_R_settle_123 : tm_s M_R_settle d u0 Q u S n 123 L st h = tm_p1 st (fun x r => tm_p1 r (fun i r => tm_pA r (fun a r => tm_cZ (h a) (fun k f => vp_in i k ∧ tm_w M_R_settle d u0 Q u S n 124 L r (tm_up h a (tm_z k (upd f i.toNatClampNeg (vp_nar .boolean x)))))))) := tm_r_bastore (by decide +kernel) rfl
theorem ws_R_settle_124 : tm_s M_R_settle d u0 Q u S n 124 L st h = tm_gI L 5 (fun x => tm_w M_R_settle d u0 Q u S n 127 (L.set 5 (some (.int (x + 1)))) st h) := tm_r_iinc (j := 5) (k := 1) (by decide +kernel) rfl (by decide) (by decide)
theorem ws_R_settle_127 : tm_s M_R_settle d u0 Q u S n 127 L st h = tm_w M_R_settle d u0 Q u S n 86 L st h := tm_r_goto (off := (-41)) (by decide +kernel) rfl
theorem ws_R_settle_130 : tm_s M_R_settle d u0 Q u S n 130 L st h = tm_gI L 4 (fun x => tm_w M_R_settle d u0 Q u S n 133 (L.set 4 (some (.int (x + 1)))) st h) := tm_r_iinc (j := 4) (k := 1) (by decide +kernel) rfl (by decide) (by decide)
theorem ws_R_settle_133 : tm_s M_R_settle d u0 Q u S n 133 L st h = tm_w M_R_settle d u0 Q u S n 38 L st h := tm_r_goto (off := (-95)) (by decide +kernel) rfl
theorem ws_R_settle_136 : tm_s M_R_settle d u0 Q u S n 136 L st h = tm_w M_R_settle d u0 Q u S n 137 L (.int 0 :: st) h := tm_r_iconst (k := 0) (by decide +kernel) rfl (by decide)
theorem ws_R_settle_137 : tm_s M_R_settle d u0 Q u S n 137 L st h = tm_p1 st (fun x r => tm_w M_R_settle d u0 Q u S n 139 (L.set 4 (some (.int x))) r h) := tm_r_istore (j := 4) (by decide +kernel) rfl (by decide)
theorem ws_R_settle_139 : tm_s M_R_settle d u0 Q u S n 139 L st h = tm_gI L 4 (fun x => tm_w M_R_settle d u0 Q u S n 141 L (.int x :: st) h) := tm_r_iload (j := 4) (by decide +kernel) rfl
theorem ws_R_settle_141 : tm_s M_R_settle d u0 Q u S n 141 L st h = tm_gI L 2 (fun x => tm_w M_R_settle d u0 Q u S n 142 L (.int x :: st) h) := tm_r_iload_n (i := 2) (by decide +kernel) rfl rfl
theorem ws_R_settle_142 : tm_s M_R_settle d u0 Q u S n 142 L st h = tm_p1 st (fun y r => tm_p1 r (fun x r => (y ≤ x → tm_w M_R_settle d u0 Q u S n 216 L r h) ∧ (¬ y ≤ x → tm_w M_R_settle d u0 Q u S n 145 L r h))) := tm_r_icge (off := 74) (by decide +kernel) rfl rfl
theorem ws_R_settle_145 : tm_s M_R_settle d u0 Q u S n 145 L st h = tm_gA L 0 (fun x => tm_w M_R_settle d u0 Q u S n 146 L (.ref x :: st) h) := tm_r_aload_n (i := 0) (by decide +kernel) rfl rfl
theorem ws_R_settle_146 : tm_s M_R_settle d u0 Q u S n 146 L st h = tm_pA st (fun a r => tm_cO (h a) 5 (fun fs => tm_fv fs 2 (fun v => tm_w M_R_settle d u0 Q u S n 149 L (v :: r) h))) := tm_r_getf (i := 13) (by decide +kernel) rfl (by decide +kernel)
theorem ws_R_settle_149 : tm_s M_R_settle d u0 Q u S n 149 L st h = tm_w M_R_settle d u0 Q u S n 151 L (.int 7 :: st) h := tm_r_bipush (k := 7) (by decide +kernel) rfl (by decide)
theorem ws_R_settle_151 : tm_s M_R_settle d u0 Q u S n 151 L st h = tm_gI L 1 (fun x => tm_w M_R_settle d u0 Q u S n 152 L (.int x :: st) h) := tm_r_iload_n (i := 1) (by decide +kernel) rfl rfl
theorem ws_R_settle_152 : tm_s M_R_settle d u0 Q u S n 152 L st h = tm_p1 st (fun y r => tm_p1 r (fun x r => tm_w M_R_settle d u0 Q u S n 153 L (.int (x * y) :: r) h)) := tm_r_imul (by decide +kernel) rfl
theorem ws_R_settle_153 : tm_s M_R_settle d u0 Q u S n 153 L st h = tm_gI L 4 (fun x => tm_w M_R_settle d u0 Q u S n 155 L (.int x :: st) h) := tm_r_iload (j := 4) (by decide +kernel) rfl
theorem ws_R_settle_155 : tm_s M_R_settle d u0 Q u S n 155 L st h = tm_p1 st (fun y r => tm_p1 r (fun x r => tm_w M_R_settle d u0 Q u S n 156 L (.int (x + y) :: r) h)) := tm_r_iadd (by decide +kernel) rfl
theorem ws_R_settle_156 : tm_s M_R_settle d u0 Q u S n 156 L st h = tm_gA L 0 (fun x => tm_w M_R_settle d u0 Q u S n 157 L (.ref x :: st) h) := tm_r_aload_n (i := 0) (by decide +kernel) rfl rfl
theorem ws_R_settle_157 : tm_s M_R_settle d u0 Q u S n 157 L st h = tm_pA st (fun a r => tm_cO (h a) 5 (fun fs => tm_fv fs 11 (fun v => tm_w M_R_settle d u0 Q u S n 160 L (v :: r) h))) := tm_r_getf (i := 35) (by decide +kernel) rfl (by decide +kernel)
theorem ws_R_settle_160 : tm_s M_R_settle d u0 Q u S n 160 L st h = tm_gI L 4 (fun x => tm_w M_R_settle d u0 Q u S n 162 L (.int x :: st) h) := tm_r_iload (j := 4) (by decide +kernel) rfl
theorem ws_R_settle_162 : tm_s M_R_settle d u0 Q u S n 162 L st h = tm_p1 st (fun i r => tm_pA r (fun a r => tm_cI (h a) (fun k f => vp_in i k ∧ tm_w M_R_settle d u0 Q u S n 163 L (.int (f i.toNatClampNeg) :: r) h))) := tm_r_iaload (by decide +kernel) rfl
theorem ws_R_settle_163 : tm_s M_R_settle d u0 Q u S n 163 L st h = tm_p1 st (fun x r => tm_p1 r (fun i r => tm_pA r (fun a r => tm_cI (h a) (fun k f => a < tm_K ∧ vp_in i k ∧ tm_w M_R_settle d u0 Q u S n 164 L r (tm_up h a (tm_i k (upd f i.toNatClampNeg x))))))) := tm_r_iastore (by decide +kernel) rfl
theorem ws_R_settle_164 : tm_s M_R_settle d u0 Q u S n 164 L st h = tm_w M_R_settle d u0 Q u S n 165 L (.int 0 :: st) h := tm_r_iconst (k := 0) (by decide +kernel) rfl (by decide)
theorem ws_R_settle_165 : tm_s M_R_settle d u0 Q u S n 165 L st h = tm_p1 st (fun x r => tm_w M_R_settle d u0 Q u S n 167 (L.set 5 (some (.int x))) r h) := tm_r_istore (j := 5) (by decide +kernel) rfl (by decide)
theorem ws_R_settle_167 : tm_s M_R_settle d u0 Q u S n 167 L st h = tm_gI L 5 (fun x => tm_w M_R_settle d u0 Q u S n 169 L (.int x :: st) h) := tm_r_iload (j := 5) (by decide +kernel) rfl
theorem ws_R_settle_169 : tm_s M_R_settle d u0 Q u S n 169 L st h = tm_gI L 2 (fun x => tm_w M_R_settle d u0 Q u S n 170 L (.int x :: st) h) := tm_r_iload_n (i := 2) (by decide +kernel) rfl rfl
theorem ws_R_settle_170 : tm_s M_R_settle d u0 Q u S n 170 L st h = tm_p1 st (fun y r => tm_p1 r (fun x r => (y ≤ x → tm_w M_R_settle d u0 Q u S n 210 L r h) ∧ (¬ y ≤ x → tm_w M_R_settle d u0 Q u S n 173 L r h))) := tm_r_icge (off := 40) (by decide +kernel) rfl rfl
theorem ws_R_settle_173 : tm_s M_R_settle d u0 Q u S n 173 L st h = tm_gA L 0 (fun x => tm_w M_R_settle d u0 Q u S n 174 L (.ref x :: st) h) := tm_r_aload_n (i := 0) (by decide +kernel) rfl rfl
theorem ws_R_settle_174 : tm_s M_R_settle d u0 Q u S n 174 L st h = tm_pA st (fun a r => tm_cO (h a) 5 (fun fs => tm_fv fs 3 (fun v => tm_w M_R_settle d u0 Q u S n 177 L (v :: r) h))) := tm_r_getf (i := 16) (by decide +kernel) rfl (by decide +kernel)
theorem ws_R_settle_177 : tm_s M_R_settle d u0 Q u S n 177 L st h = tm_w M_R_settle d u0 Q u S n 179 L (.int 49 :: st) h := tm_r_bipush (k := 49) (by decide +kernel) rfl (by decide)
theorem ws_R_settle_179 : tm_s M_R_settle d u0 Q u S n 179 L st h = tm_gI L 1 (fun x => tm_w M_R_settle d u0 Q u S n 180 L (.int x :: st) h) := tm_r_iload_n (i := 1) (by decide +kernel) rfl rfl
theorem ws_R_settle_180 : tm_s M_R_settle d u0 Q u S n 180 L st h = tm_p1 st (fun y r => tm_p1 r (fun x r => tm_w M_R_settle d u0 Q u S n 181 L (.int (x * y) :: r) h)) := tm_r_imul (by decide +kernel) rfl
theorem ws_R_settle_181 : tm_s M_R_settle d u0 Q u S n 181 L st h = tm_w M_R_settle d u0 Q u S n 183 L (.int 7 :: st) h := tm_r_bipush (k := 7) (by decide +kernel) rfl (by decide)
theorem ws_R_settle_183 : tm_s M_R_settle d u0 Q u S n 183 L st h = tm_gI L 4 (fun x => tm_w M_R_settle d u0 Q u S n 185 L (.int x :: st) h) := tm_r_iload (j := 4) (by decide +kernel) rfl
theorem ws_R_settle_185 : tm_s M_R_settle d u0 Q u S n 185 L st h = tm_p1 st (fun y r => tm_p1 r (fun x r => tm_w M_R_settle d u0 Q u S n 186 L (.int (x * y) :: r) h)) := tm_r_imul (by decide +kernel) rfl
theorem ws_R_settle_186 : tm_s M_R_settle d u0 Q u S n 186 L st h = tm_p1 st (fun y r => tm_p1 r (fun x r => tm_w M_R_settle d u0 Q u S n 187 L (.int (x + y) :: r) h)) := tm_r_iadd (by decide +kernel) rfl
theorem ws_R_settle_187 : tm_s M_R_settle d u0 Q u S n 187 L st h = tm_gI L 5 (fun x => tm_w M_R_settle d u0 Q u S n 189 L (.int x :: st) h) := tm_r_iload (j := 5) (by decide +kernel) rfl
theorem ws_R_settle_189 : tm_s M_R_settle d u0 Q u S n 189 L st h = tm_p1 st (fun y r => tm_p1 r (fun x r => tm_w M_R_settle d u0 Q u S n 190 L (.int (x + y) :: r) h)) := tm_r_iadd (by decide +kernel) rfl
theorem ws_R_settle_190 : tm_s M_R_settle d u0 Q u S n 190 L st h = tm_gA L 0 (fun x => tm_w M_R_settle d u0 Q u S n 191 L (.ref x :: st) h) := tm_r_aload_n (i := 0) (by decide +kernel) rfl rfl
theorem ws_R_settle_191 : tm_s M_R_settle d u0 Q u S n 191 L st h = tm_pA st (fun a r => tm_cO (h a) 5 (fun fs => tm_fv fs 12 (fun v => tm_w M_R_settle d u0 Q u S n 194 L (v :: r) h))) := tm_r_getf (i := 38) (by decide +kernel) rfl (by decide +kernel)
theorem ws_R_settle_194 : tm_s M_R_settle d u0 Q u S n 194 L st h = tm_w M_R_settle d u0 Q u S n 196 L (.int 7 :: st) h := tm_r_bipush (k := 7) (by decide +kernel) rfl (by decide)
theorem ws_R_settle_196 : tm_s M_R_settle d u0 Q u S n 196 L st h = tm_gI L 4 (fun x => tm_w M_R_settle d u0 Q u S n 198 L (.int x :: st) h) := tm_r_iload (j := 4) (by decide +kernel) rfl
theorem ws_R_settle_198 : tm_s M_R_settle d u0 Q u S n 198 L st h = tm_p1 st (fun y r => tm_p1 r (fun x r => tm_w M_R_settle d u0 Q u S n 199 L (.int (x * y) :: r) h)) := tm_r_imul (by decide +kernel) rfl
theorem ws_R_settle_199 : tm_s M_R_settle d u0 Q u S n 199 L st h = tm_gI L 5 (fun x => tm_w M_R_settle d u0 Q u S n 201 L (.int x :: st) h) := tm_r_iload (j := 5) (by decide +kernel) rfl
theorem ws_R_settle_201 : tm_s M_R_settle d u0 Q u S n 201 L st h = tm_p1 st (fun y r => tm_p1 r (fun x r => tm_w M_R_settle d u0 Q u S n 202 L (.int (x + y) :: r) h)) := tm_r_iadd (by decide +kernel) rfl
theorem ws_R_settle_202 : tm_s M_R_settle d u0 Q u S n 202 L st h = tm_p1 st (fun i r => tm_pA r (fun a r => tm_cZ (h a) (fun k f => vp_in i k ∧ tm_w M_R_settle d u0 Q u S n 203 L (.int (f i.toNatClampNeg) :: r) h))) := tm_r_baload (by decide +kernel) rfl
theorem ws_R_settle_203 : tm_s M_R_settle d u0 Q u S n 203 L st h = tm_p1 st (fun x r => tm_p1 r (fun i r => tm_pA r (fun a r => tm_cZ (h a) (fun k f => vp_in i k ∧ tm_w M_R_settle d u0 Q u S n 204 L r (tm_up h a (tm_z k (upd f i.toNatClampNeg (vp_nar .boolean x)))))))) := tm_r_bastore (by decide +kernel) rfl
theorem ws_R_settle_204 : tm_s M_R_settle d u0 Q u S n 204 L st h = tm_gI L 5 (fun x => tm_w M_R_settle d u0 Q u S n 207 (L.set 5 (some (.int (x + 1)))) st h) := tm_r_iinc (j := 5) (k := 1) (by decide +kernel) rfl (by decide) (by decide)
theorem ws_R_settle_207 : tm_s M_R_settle d u0 Q u S n 207 L st h = tm_w M_R_settle d u0 Q u S n 167 L st h := tm_r_goto (off := (-40)) (by decide +kernel) rfl
theorem ws_R_settle_210 : tm_s M_R_settle d u0 Q u S n 210 L st h = tm_gI L 4 (fun x => tm_w M_R_settle d u0 Q u S n 213 (L.set 4 (some (.int (x + 1)))) st h) := tm_r_iinc (j := 4) (k := 1) (by decide +kernel) rfl (by decide) (by decide)
theorem ws_R_settle_213 : tm_s M_R_settle d u0 Q u S n 213 L st h = tm_w M_R_settle d u0 Q u S n 139 L st h := tm_r_goto (off := (-74)) (by decide +kernel) rfl
theorem ws_R_settle_216 : tm_s M_R_settle d u0 Q u S n 216 L st h = tm_gI L 3 (fun x => tm_w M_R_settle d u0 Q u S n 217 L (.int x :: st) h) := tm_r_iload_n (i := 3) (by decide +kernel) rfl rfl
theorem ws_R_settle_217 : tm_s M_R_settle d u0 Q u S n 217 L st h = tm_p1 st (fun x r => r = [] ∧ Q (.inl (some (.int x))) h) := tm_r_iret (by decide +kernel) rfl
theorem ws_R_begin_0 : tm_s M_R_begin d u0 Q u S n 0 L st h = tm_w M_R_begin d u0 Q u S n 1 L (.int 0 :: st) h := tm_r_iconst (k := 0) (by decide +kernel) rfl (by decide)
theorem ws_R_begin_1 : tm_s M_R_begin d u0 Q u S n 1 L st h = tm_p1 st (fun x r => tm_w M_R_begin d u0 Q u S n 2 (L.set 1 (some (.int x))) r h) := tm_r_istore_n (i := 1) (by decide +kernel) rfl rfl (by decide)
theorem ws_R_begin_2 : tm_s M_R_begin d u0 Q u S n 2 L st h = tm_gI L 1 (fun x => tm_w M_R_begin d u0 Q u S n 3 L (.int x :: st) h) := tm_r_iload_n (i := 1) (by decide +kernel) rfl rfl
theorem ws_R_begin_3 : tm_s M_R_begin d u0 Q u S n 3 L st h = tm_w M_R_begin d u0 Q u S n 5 L (.int 7 :: st) h := tm_r_bipush (k := 7) (by decide +kernel) rfl (by decide)
theorem ws_R_begin_5 : tm_s M_R_begin d u0 Q u S n 5 L st h = tm_p1 st (fun y r => tm_p1 r (fun x r => (y ≤ x → tm_w M_R_begin d u0 Q u S n 21 L r h) ∧ (¬ y ≤ x → tm_w M_R_begin d u0 Q u S n 8 L r h))) := tm_r_icge (off := 16) (by decide +kernel) rfl rfl
theorem ws_R_begin_8 : tm_s M_R_begin d u0 Q u S n 8 L st h = tm_gA L 0 (fun x => tm_w M_R_begin d u0 Q u S n 9 L (.ref x :: st) h) := tm_r_aload_n (i := 0) (by decide +kernel) rfl rfl
theorem ws_R_begin_9 : tm_s M_R_begin d u0 Q u S n 9 L st h = tm_pA st (fun a r => tm_cO (h a) 5 (fun fs => tm_fv fs 4 (fun v => tm_w M_R_begin d u0 Q u S n 12 L (v :: r) h))) := tm_r_getf (i := 20) (by decide +kernel) rfl (by decide +kernel)
theorem ws_R_begin_12 : tm_s M_R_begin d u0 Q u S n 12 L st h = tm_gI L 1 (fun x => tm_w M_R_begin d u0 Q u S n 13 L (.int x :: st) h) := tm_r_iload_n (i := 1) (by decide +kernel) rfl rfl
theorem ws_R_begin_13 : tm_s M_R_begin d u0 Q u S n 13 L st h = tm_gI L 1 (fun x => tm_w M_R_begin d u0 Q u S n 14 L (.int x :: st) h) := tm_r_iload_n (i := 1) (by decide +kernel) rfl rfl
theorem ws_R_begin_14 : tm_s M_R_begin d u0 Q u S n 14 L st h = tm_p1 st (fun x r => tm_p1 r (fun i r => tm_pA r (fun a r => tm_cI (h a) (fun k f => a < tm_K ∧ vp_in i k ∧ tm_w M_R_begin d u0 Q u S n 15 L r (tm_up h a (tm_i k (upd f i.toNatClampNeg x))))))) := tm_r_iastore (by decide +kernel) rfl
theorem ws_R_begin_15 : tm_s M_R_begin d u0 Q u S n 15 L st h = tm_gI L 1 (fun x => tm_w M_R_begin d u0 Q u S n 18 (L.set 1 (some (.int (x + 1)))) st h) := tm_r_iinc (j := 1) (k := 1) (by decide +kernel) rfl (by decide) (by decide)
theorem ws_R_begin_18 : tm_s M_R_begin d u0 Q u S n 18 L st h = tm_w M_R_begin d u0 Q u S n 2 L st h := tm_r_goto (off := (-16)) (by decide +kernel) rfl
theorem ws_R_begin_21 : tm_s M_R_begin d u0 Q u S n 21 L st h = (st = [] ∧ Q (.inl none) h) := tm_r_vret (by decide +kernel) rfl
theorem ws_R_next_0 : tm_s M_R_next d u0 Q u S n 0 L st h = tm_gI L 1 (fun x => tm_w M_R_next d u0 Q u S n 1 L (.int x :: st) h) := tm_r_iload_n (i := 1) (by decide +kernel) rfl rfl
theorem ws_R_next_1 : tm_s M_R_next d u0 Q u S n 1 L st h = tm_w M_R_next d u0 Q u S n 2 L (.int 2 :: st) h := tm_r_iconst (k := 2) (by decide +kernel) rfl (by decide)
theorem ws_R_next_2 : tm_s M_R_next d u0 Q u S n 2 L st h = tm_p1 st (fun y r => tm_p1 r (fun x r => tm_w M_R_next d u0 Q u S n 3 L (.int (x - y) :: r) h)) := tm_r_isub (by decide +kernel) rfl
theorem ws_R_next_3 : tm_s M_R_next d u0 Q u S n 3 L st h = tm_p1 st (fun x r => tm_w M_R_next d u0 Q u S n 4 (L.set 2 (some (.int x))) r h) := tm_r_istore_n (i := 2) (by decide +kernel) rfl rfl (by decide)
theorem ws_R_next_4 : tm_s M_R_next d u0 Q u S n 4 L st h = tm_gI L 2 (fun x => tm_w M_R_next d u0 Q u S n 5 L (.int x :: st) h) := tm_r_iload_n (i := 2) (by decide +kernel) rfl rfl
theorem ws_R_next_5 : tm_s M_R_next d u0 Q u S n 5 L st h = tm_p1 st (fun x r => (x < 0 → tm_w M_R_next d u0 Q u S n 31 L r h) ∧ (¬ x < 0 → tm_w M_R_next d u0 Q u S n 8 L r h)) := tm_r_iflt (off := 26) (by decide +kernel) rfl rfl
theorem ws_R_next_8 : tm_s M_R_next d u0 Q u S n 8 L st h = tm_gA L 0 (fun x => tm_w M_R_next d u0 Q u S n 9 L (.ref x :: st) h) := tm_r_aload_n (i := 0) (by decide +kernel) rfl rfl
theorem ws_R_next_9 : tm_s M_R_next d u0 Q u S n 9 L st h = tm_pA st (fun a r => tm_cO (h a) 5 (fun fs => tm_fv fs 4 (fun v => tm_w M_R_next d u0 Q u S n 12 L (v :: r) h))) := tm_r_getf (i := 20) (by decide +kernel) rfl (by decide +kernel)
theorem ws_R_next_12 : tm_s M_R_next d u0 Q u S n 12 L st h = tm_gI L 2 (fun x => tm_w M_R_next d u0 Q u S n 13 L (.int x :: st) h) := tm_r_iload_n (i := 2) (by decide +kernel) rfl rfl
theorem ws_R_next_13 : tm_s M_R_next d u0 Q u S n 13 L st h = tm_p1 st (fun i r => tm_pA r (fun a r => tm_cI (h a) (fun k f => vp_in i k ∧ tm_w M_R_next d u0 Q u S n 14 L (.int (f i.toNatClampNeg) :: r) h))) := tm_r_iaload (by decide +kernel) rfl
theorem ws_R_next_14 : tm_s M_R_next d u0 Q u S n 14 L st h = tm_gA L 0 (fun x => tm_w M_R_next d u0 Q u S n 15 L (.ref x :: st) h) := tm_r_aload_n (i := 0) (by decide +kernel) rfl rfl
theorem ws_R_next_15 : tm_s M_R_next d u0 Q u S n 15 L st h = tm_pA st (fun a r => tm_cO (h a) 5 (fun fs => tm_fv fs 4 (fun v => tm_w M_R_next d u0 Q u S n 18 L (v :: r) h))) := tm_r_getf (i := 20) (by decide +kernel) rfl (by decide +kernel)
theorem ws_R_next_18 : tm_s M_R_next d u0 Q u S n 18 L st h = tm_gI L 2 (fun x => tm_w M_R_next d u0 Q u S n 19 L (.int x :: st) h) := tm_r_iload_n (i := 2) (by decide +kernel) rfl rfl
theorem ws_R_next_19 : tm_s M_R_next d u0 Q u S n 19 L st h = tm_w M_R_next d u0 Q u S n 20 L (.int 1 :: st) h := tm_r_iconst (k := 1) (by decide +kernel) rfl (by decide)
theorem ws_R_next_20 : tm_s M_R_next d u0 Q u S n 20 L st h = tm_p1 st (fun y r => tm_p1 r (fun x r => tm_w M_R_next d u0 Q u S n 21 L (.int (x + y) :: r) h)) := tm_r_iadd (by decide +kernel) rfl
theorem ws_R_next_21 : tm_s M_R_next d u0 Q u S n 21 L st h = tm_p1 st (fun i r => tm_pA r (fun a r => tm_cI (h a) (fun k f => vp_in i k ∧ tm_w M_R_next d u0 Q u S n 22 L (.int (f i.toNatClampNeg) :: r) h))) := tm_r_iaload (by decide +kernel) rfl
theorem ws_R_next_22 : tm_s M_R_next d u0 Q u S n 22 L st h = tm_p1 st (fun y r => tm_p1 r (fun x r => (x ≤ y → tm_w M_R_next d u0 Q u S n 31 L r h) ∧ (¬ x ≤ y → tm_w M_R_next d u0 Q u S n 25 L r h))) := tm_r_icle (off := 9) (by decide +kernel) rfl rfl
theorem ws_R_next_25 : tm_s M_R_next d u0 Q u S n 25 L st h = tm_gI L 2 (fun x => tm_w M_R_next d u0 Q u S n 28 (L.set 2 (some (.int (x + (-1))))) st h) := tm_r_iinc (j := 2) (k := (-1)) (by decide +kernel) rfl (by decide) (by decide)
theorem ws_R_next_28 : tm_s M_R_next d u0 Q u S n 28 L st h = tm_w M_R_next d u0 Q u S n 4 L st h := tm_r_goto (off := (-24)) (by decide +kernel) rfl
theorem ws_R_next_31 : tm_s M_R_next d u0 Q u S n 31 L st h = tm_gI L 2 (fun x => tm_w M_R_next d u0 Q u S n 32 L (.int x :: st) h) := tm_r_iload_n (i := 2) (by decide +kernel) rfl rfl
theorem ws_R_next_32 : tm_s M_R_next d u0 Q u S n 32 L st h = tm_p1 st (fun x r => (0 ≤ x → tm_w M_R_next d u0 Q u S n 37 L r h) ∧ (¬ 0 ≤ x → tm_w M_R_next d u0 Q u S n 35 L r h)) := tm_r_ifge (off := 5) (by decide +kernel) rfl rfl
theorem ws_R_next_35 : tm_s M_R_next d u0 Q u S n 35 L st h = tm_w M_R_next d u0 Q u S n 36 L (.int 0 :: st) h := tm_r_iconst (k := 0) (by decide +kernel) rfl (by decide)
theorem ws_R_next_36 : tm_s M_R_next d u0 Q u S n 36 L st h = tm_p1 st (fun x r => r = [] ∧ (x = 0 ∨ x = 1) ∧ Q (.inl (some (.int x))) h) := tm_r_zret (by decide +kernel) rfl
theorem ws_R_next_37 : tm_s M_R_next d u0 Q u S n 37 L st h = tm_gI L 1 (fun x => tm_w M_R_next d u0 Q u S n 38 L (.int x :: st) h) := tm_r_iload_n (i := 1) (by decide +kernel) rfl rfl
theorem ws_R_next_38 : tm_s M_R_next d u0 Q u S n 38 L st h = tm_w M_R_next d u0 Q u S n 39 L (.int 1 :: st) h := tm_r_iconst (k := 1) (by decide +kernel) rfl (by decide)
theorem ws_R_next_39 : tm_s M_R_next d u0 Q u S n 39 L st h = tm_p1 st (fun y r => tm_p1 r (fun x r => tm_w M_R_next d u0 Q u S n 40 L (.int (x - y) :: r) h)) := tm_r_isub (by decide +kernel) rfl
theorem ws_R_next_40 : tm_s M_R_next d u0 Q u S n 40 L st h = tm_p1 st (fun x r => tm_w M_R_next d u0 Q u S n 41 (L.set 3 (some (.int x))) r h) := tm_r_istore_n (i := 3) (by decide +kernel) rfl rfl (by decide)
theorem ws_R_next_41 : tm_s M_R_next d u0 Q u S n 41 L st h = tm_gA L 0 (fun x => tm_w M_R_next d u0 Q u S n 42 L (.ref x :: st) h) := tm_r_aload_n (i := 0) (by decide +kernel) rfl rfl
theorem ws_R_next_42 : tm_s M_R_next d u0 Q u S n 42 L st h = tm_pA st (fun a r => tm_cO (h a) 5 (fun fs => tm_fv fs 4 (fun v => tm_w M_R_next d u0 Q u S n 45 L (v :: r) h))) := tm_r_getf (i := 20) (by decide +kernel) rfl (by decide +kernel)
theorem ws_R_next_45 : tm_s M_R_next d u0 Q u S n 45 L st h = tm_gI L 3 (fun x => tm_w M_R_next d u0 Q u S n 46 L (.int x :: st) h) := tm_r_iload_n (i := 3) (by decide +kernel) rfl rfl
theorem ws_R_next_46 : tm_s M_R_next d u0 Q u S n 46 L st h = tm_p1 st (fun i r => tm_pA r (fun a r => tm_cI (h a) (fun k f => vp_in i k ∧ tm_w M_R_next d u0 Q u S n 47 L (.int (f i.toNatClampNeg) :: r) h))) := tm_r_iaload (by decide +kernel) rfl
theorem ws_R_next_47 : tm_s M_R_next d u0 Q u S n 47 L st h = tm_gA L 0 (fun x => tm_w M_R_next d u0 Q u S n 48 L (.ref x :: st) h) := tm_r_aload_n (i := 0) (by decide +kernel) rfl rfl
theorem ws_R_next_48 : tm_s M_R_next d u0 Q u S n 48 L st h = tm_pA st (fun a r => tm_cO (h a) 5 (fun fs => tm_fv fs 4 (fun v => tm_w M_R_next d u0 Q u S n 51 L (v :: r) h))) := tm_r_getf (i := 20) (by decide +kernel) rfl (by decide +kernel)
theorem ws_R_next_51 : tm_s M_R_next d u0 Q u S n 51 L st h = tm_gI L 2 (fun x => tm_w M_R_next d u0 Q u S n 52 L (.int x :: st) h) := tm_r_iload_n (i := 2) (by decide +kernel) rfl rfl
theorem ws_R_next_52 : tm_s M_R_next d u0 Q u S n 52 L st h = tm_p1 st (fun i r => tm_pA r (fun a r => tm_cI (h a) (fun k f => vp_in i k ∧ tm_w M_R_next d u0 Q u S n 53 L (.int (f i.toNatClampNeg) :: r) h))) := tm_r_iaload (by decide +kernel) rfl
theorem ws_R_next_53 : tm_s M_R_next d u0 Q u S n 53 L st h = tm_p1 st (fun y r => tm_p1 r (fun x r => (y ≤ x → tm_w M_R_next d u0 Q u S n 62 L r h) ∧ (¬ y ≤ x → tm_w M_R_next d u0 Q u S n 56 L r h))) := tm_r_icge (off := 9) (by decide +kernel) rfl rfl
theorem ws_R_next_56 : tm_s M_R_next d u0 Q u S n 56 L st h = tm_gI L 3 (fun x => tm_w M_R_next d u0 Q u S n 59 (L.set 3 (some (.int (x + (-1))))) st h) := tm_r_iinc (j := 3) (k := (-1)) (by decide +kernel) rfl (by decide) (by decide)
theorem ws_R_next_59 : tm_s M_R_next d u0 Q u S n 59 L st h = tm_w M_R_next d u0 Q u S n 41 L st h := tm_r_goto (off := (-18)) (by decide +kernel) rfl
theorem ws_R_next_62 : tm_s M_R_next d u0 Q u S n 62 L st h = tm_gA L 0 (fun x => tm_w M_R_next d u0 Q u S n 63 L (.ref x :: st) h) := tm_r_aload_n (i := 0) (by decide +kernel) rfl rfl
theorem ws_R_next_63 : tm_s M_R_next d u0 Q u S n 63 L st h = tm_gI L 2 (fun x => tm_w M_R_next d u0 Q u S n 64 L (.int x :: st) h) := tm_r_iload_n (i := 2) (by decide +kernel) rfl rfl
theorem ws_R_next_64 : tm_s M_R_next d u0 Q u S n 64 L st h = tm_gI L 3 (fun x => tm_w M_R_next d u0 Q u S n 65 L (.int x :: st) h) := tm_r_iload_n (i := 3) (by decide +kernel) rfl rfl
theorem dd_R_next_65 : decode (tm_cc M_R_next) 65 = .ok (.invokevirtual 76, 3) := by decide +kernel
theorem ws_R_next_65 : tm_s M_R_next d u0 Q u S n 65 L st h = tm_T M_R_next d u0 Q u 65 L st h := tm_r_invv dd_R_next_65
theorem ws_R_next_68 : tm_s M_R_next d u0 Q u S n 68 L st h = tm_gI L 2 (fun x => tm_w M_R_next d u0 Q u S n 69 L (.int x :: st) h) := tm_r_iload_n (i := 2) (by decide +kernel) rfl rfl
theorem ws_R_next_69 : tm_s M_R_next d u0 Q u S n 69 L st h = tm_w M_R_next d u0 Q u S n 70 L (.int 1 :: st) h := tm_r_iconst (k := 1) (by decide +kernel) rfl (by decide)
theorem ws_R_next_70 : tm_s M_R_next d u0 Q u S n 70 L st h = tm_p1 st (fun y r => tm_p1 r (fun x r => tm_w M_R_next d u0 Q u S n 71 L (.int (x + y) :: r) h)) := tm_r_iadd (by decide +kernel) rfl
theorem ws_R_next_71 : tm_s M_R_next d u0 Q u S n 71 L st h = tm_p1 st (fun x r => tm_w M_R_next d u0 Q u S n 73 (L.set 4 (some (.int x))) r h) := tm_r_istore (j := 4) (by decide +kernel) rfl (by decide)
theorem ws_R_next_73 : tm_s M_R_next d u0 Q u S n 73 L st h = tm_gI L 1 (fun x => tm_w M_R_next d u0 Q u S n 74 L (.int x :: st) h) := tm_r_iload_n (i := 1) (by decide +kernel) rfl rfl
theorem ws_R_next_74 : tm_s M_R_next d u0 Q u S n 74 L st h = tm_w M_R_next d u0 Q u S n 75 L (.int 1 :: st) h := tm_r_iconst (k := 1) (by decide +kernel) rfl (by decide)
theorem ws_R_next_75 : tm_s M_R_next d u0 Q u S n 75 L st h = tm_p1 st (fun y r => tm_p1 r (fun x r => tm_w M_R_next d u0 Q u S n 76 L (.int (x - y) :: r) h)) := tm_r_isub (by decide +kernel) rfl
theorem ws_R_next_76 : tm_s M_R_next d u0 Q u S n 76 L st h = tm_p1 st (fun x r => tm_w M_R_next d u0 Q u S n 78 (L.set 5 (some (.int x))) r h) := tm_r_istore (j := 5) (by decide +kernel) rfl (by decide)
theorem ws_R_next_78 : tm_s M_R_next d u0 Q u S n 78 L st h = tm_gI L 4 (fun x => tm_w M_R_next d u0 Q u S n 80 L (.int x :: st) h) := tm_r_iload (j := 4) (by decide +kernel) rfl
theorem ws_R_next_80 : tm_s M_R_next d u0 Q u S n 80 L st h = tm_gI L 5 (fun x => tm_w M_R_next d u0 Q u S n 82 L (.int x :: st) h) := tm_r_iload (j := 5) (by decide +kernel) rfl
theorem ws_R_next_82 : tm_s M_R_next d u0 Q u S n 82 L st h = tm_p1 st (fun y r => tm_p1 r (fun x r => (y ≤ x → tm_w M_R_next d u0 Q u S n 102 L r h) ∧ (¬ y ≤ x → tm_w M_R_next d u0 Q u S n 85 L r h))) := tm_r_icge (off := 20) (by decide +kernel) rfl rfl
theorem ws_R_next_85 : tm_s M_R_next d u0 Q u S n 85 L st h = tm_gA L 0 (fun x => tm_w M_R_next d u0 Q u S n 86 L (.ref x :: st) h) := tm_r_aload_n (i := 0) (by decide +kernel) rfl rfl
theorem ws_R_next_86 : tm_s M_R_next d u0 Q u S n 86 L st h = tm_gI L 4 (fun x => tm_w M_R_next d u0 Q u S n 88 L (.int x :: st) h) := tm_r_iload (j := 4) (by decide +kernel) rfl
theorem ws_R_next_88 : tm_s M_R_next d u0 Q u S n 88 L st h = tm_gI L 5 (fun x => tm_w M_R_next d u0 Q u S n 90 L (.int x :: st) h) := tm_r_iload (j := 5) (by decide +kernel) rfl
theorem dd_R_next_90 : decode (tm_cc M_R_next) 90 = .ok (.invokevirtual 76, 3) := by decide +kernel
theorem ws_R_next_90 : tm_s M_R_next d u0 Q u S n 90 L st h = tm_T M_R_next d u0 Q u 90 L st h := tm_r_invv dd_R_next_90
theorem ws_R_next_93 : tm_s M_R_next d u0 Q u S n 93 L st h = tm_gI L 4 (fun x => tm_w M_R_next d u0 Q u S n 96 (L.set 4 (some (.int (x + 1)))) st h) := tm_r_iinc (j := 4) (k := 1) (by decide +kernel) rfl (by decide) (by decide)
theorem ws_R_next_96 : tm_s M_R_next d u0 Q u S n 96 L st h = tm_gI L 5 (fun x => tm_w M_R_next d u0 Q u S n 99 (L.set 5 (some (.int (x + (-1))))) st h) := tm_r_iinc (j := 5) (k := (-1)) (by decide +kernel) rfl (by decide) (by decide)
theorem ws_R_next_99 : tm_s M_R_next d u0 Q u S n 99 L st h = tm_w M_R_next d u0 Q u S n 78 L st h := tm_r_goto (off := (-21)) (by decide +kernel) rfl
theorem ws_R_next_102 : tm_s M_R_next d u0 Q u S n 102 L st h = tm_w M_R_next d u0 Q u S n 103 L (.int 1 :: st) h := tm_r_iconst (k := 1) (by decide +kernel) rfl (by decide)
theorem ws_R_next_103 : tm_s M_R_next d u0 Q u S n 103 L st h = tm_p1 st (fun x r => r = [] ∧ (x = 0 ∨ x = 1) ∧ Q (.inl (some (.int x))) h) := tm_r_zret (by decide +kernel) rfl
theorem ws_R_change_0 : tm_s M_R_change d u0 Q u S n 0 L st h = tm_gA L 0 (fun x => tm_w M_R_change d u0 Q u S n 1 L (.ref x :: st) h) := tm_r_aload_n (i := 0) (by decide +kernel) rfl rfl
theorem ws_R_change_1 : tm_s M_R_change d u0 Q u S n 1 L st h = tm_pA st (fun a r => tm_cO (h a) 5 (fun fs => tm_fv fs 4 (fun v => tm_w M_R_change d u0 Q u S n 4 L (v :: r) h))) := tm_r_getf (i := 20) (by decide +kernel) rfl (by decide +kernel)
theorem ws_R_change_4 : tm_s M_R_change d u0 Q u S n 4 L st h = tm_gI L 1 (fun x => tm_w M_R_change d u0 Q u S n 5 L (.int x :: st) h) := tm_r_iload_n (i := 1) (by decide +kernel) rfl rfl
theorem ws_R_change_5 : tm_s M_R_change d u0 Q u S n 5 L st h = tm_p1 st (fun i r => tm_pA r (fun a r => tm_cI (h a) (fun k f => vp_in i k ∧ tm_w M_R_change d u0 Q u S n 6 L (.int (f i.toNatClampNeg) :: r) h))) := tm_r_iaload (by decide +kernel) rfl
theorem ws_R_change_6 : tm_s M_R_change d u0 Q u S n 6 L st h = tm_p1 st (fun x r => tm_w M_R_change d u0 Q u S n 7 (L.set 3 (some (.int x))) r h) := tm_r_istore_n (i := 3) (by decide +kernel) rfl rfl (by decide)
theorem ws_R_change_7 : tm_s M_R_change d u0 Q u S n 7 L st h = tm_gA L 0 (fun x => tm_w M_R_change d u0 Q u S n 8 L (.ref x :: st) h) := tm_r_aload_n (i := 0) (by decide +kernel) rfl rfl
theorem ws_R_change_8 : tm_s M_R_change d u0 Q u S n 8 L st h = tm_pA st (fun a r => tm_cO (h a) 5 (fun fs => tm_fv fs 4 (fun v => tm_w M_R_change d u0 Q u S n 11 L (v :: r) h))) := tm_r_getf (i := 20) (by decide +kernel) rfl (by decide +kernel)
theorem ws_R_change_11 : tm_s M_R_change d u0 Q u S n 11 L st h = tm_gI L 1 (fun x => tm_w M_R_change d u0 Q u S n 12 L (.int x :: st) h) := tm_r_iload_n (i := 1) (by decide +kernel) rfl rfl
theorem ws_R_change_12 : tm_s M_R_change d u0 Q u S n 12 L st h = tm_gA L 0 (fun x => tm_w M_R_change d u0 Q u S n 13 L (.ref x :: st) h) := tm_r_aload_n (i := 0) (by decide +kernel) rfl rfl
theorem ws_R_change_13 : tm_s M_R_change d u0 Q u S n 13 L st h = tm_pA st (fun a r => tm_cO (h a) 5 (fun fs => tm_fv fs 4 (fun v => tm_w M_R_change d u0 Q u S n 16 L (v :: r) h))) := tm_r_getf (i := 20) (by decide +kernel) rfl (by decide +kernel)
theorem ws_R_change_16 : tm_s M_R_change d u0 Q u S n 16 L st h = tm_gI L 2 (fun x => tm_w M_R_change d u0 Q u S n 17 L (.int x :: st) h) := tm_r_iload_n (i := 2) (by decide +kernel) rfl rfl
theorem ws_R_change_17 : tm_s M_R_change d u0 Q u S n 17 L st h = tm_p1 st (fun i r => tm_pA r (fun a r => tm_cI (h a) (fun k f => vp_in i k ∧ tm_w M_R_change d u0 Q u S n 18 L (.int (f i.toNatClampNeg) :: r) h))) := tm_r_iaload (by decide +kernel) rfl
theorem ws_R_change_18 : tm_s M_R_change d u0 Q u S n 18 L st h = tm_p1 st (fun x r => tm_p1 r (fun i r => tm_pA r (fun a r => tm_cI (h a) (fun k f => a < tm_K ∧ vp_in i k ∧ tm_w M_R_change d u0 Q u S n 19 L r (tm_up h a (tm_i k (upd f i.toNatClampNeg x))))))) := tm_r_iastore (by decide +kernel) rfl
theorem ws_R_change_19 : tm_s M_R_change d u0 Q u S n 19 L st h = tm_gA L 0 (fun x => tm_w M_R_change d u0 Q u S n 20 L (.ref x :: st) h) := tm_r_aload_n (i := 0) (by decide +kernel) rfl rfl
theorem ws_R_change_20 : tm_s M_R_change d u0 Q u S n 20 L st h = tm_pA st (fun a r => tm_cO (h a) 5 (fun fs => tm_fv fs 4 (fun v => tm_w M_R_change d u0 Q u S n 23 L (v :: r) h))) := tm_r_getf (i := 20) (by decide +kernel) rfl (by decide +kernel)
theorem ws_R_change_23 : tm_s M_R_change d u0 Q u S n 23 L st h = tm_gI L 2 (fun x => tm_w M_R_change d u0 Q u S n 24 L (.int x :: st) h) := tm_r_iload_n (i := 2) (by decide +kernel) rfl rfl
theorem ws_R_change_24 : tm_s M_R_change d u0 Q u S n 24 L st h = tm_gI L 3 (fun x => tm_w M_R_change d u0 Q u S n 25 L (.int x :: st) h) := tm_r_iload_n (i := 3) (by decide +kernel) rfl rfl
theorem ws_R_change_25 : tm_s M_R_change d u0 Q u S n 25 L st h = tm_p1 st (fun x r => tm_p1 r (fun i r => tm_pA r (fun a r => tm_cI (h a) (fun k f => a < tm_K ∧ vp_in i k ∧ tm_w M_R_change d u0 Q u S n 26 L r (tm_up h a (tm_i k (upd f i.toNatClampNeg x))))))) := tm_r_iastore (by decide +kernel) rfl
theorem ws_R_change_26 : tm_s M_R_change d u0 Q u S n 26 L st h = (st = [] ∧ Q (.inl none) h) := tm_r_vret (by decide +kernel) rfl
theorem ws_R_rises_0 : tm_s M_R_rises d u0 Q u S n 0 L st h = tm_w M_R_rises d u0 Q u S n 1 L (.int 1 :: st) h := tm_r_iconst (k := 1) (by decide +kernel) rfl (by decide)
theorem ws_R_rises_1 : tm_s M_R_rises d u0 Q u S n 1 L st h = tm_p1 st (fun x r => tm_w M_R_rises d u0 Q u S n 2 (L.set 2 (some (.int x))) r h) := tm_r_istore_n (i := 2) (by decide +kernel) rfl rfl (by decide)
theorem ws_R_rises_2 : tm_s M_R_rises d u0 Q u S n 2 L st h = tm_w M_R_rises d u0 Q u S n 3 L (.int 1 :: st) h := tm_r_iconst (k := 1) (by decide +kernel) rfl (by decide)
theorem ws_R_rises_3 : tm_s M_R_rises d u0 Q u S n 3 L st h = tm_p1 st (fun x r => tm_w M_R_rises d u0 Q u S n 4 (L.set 3 (some (.int x))) r h) := tm_r_istore_n (i := 3) (by decide +kernel) rfl rfl (by decide)
theorem ws_R_rises_4 : tm_s M_R_rises d u0 Q u S n 4 L st h = tm_gI L 3 (fun x => tm_w M_R_rises d u0 Q u S n 5 L (.int x :: st) h) := tm_r_iload_n (i := 3) (by decide +kernel) rfl rfl
theorem ws_R_rises_5 : tm_s M_R_rises d u0 Q u S n 5 L st h = tm_gA L 0 (fun x => tm_w M_R_rises d u0 Q u S n 6 L (.ref x :: st) h) := tm_r_aload_n (i := 0) (by decide +kernel) rfl rfl
theorem ws_R_rises_6 : tm_s M_R_rises d u0 Q u S n 6 L st h = tm_pA st (fun a r => tm_cO (h a) 5 (fun fs => tm_fv fs 1 (fun v => tm_w M_R_rises d u0 Q u S n 9 L (v :: r) h))) := tm_r_getf (i := 7) (by decide +kernel) rfl (by decide +kernel)
theorem ws_R_rises_9 : tm_s M_R_rises d u0 Q u S n 9 L st h = tm_gI L 1 (fun x => tm_w M_R_rises d u0 Q u S n 10 L (.int x :: st) h) := tm_r_iload_n (i := 1) (by decide +kernel) rfl rfl
theorem ws_R_rises_10 : tm_s M_R_rises d u0 Q u S n 10 L st h = tm_p1 st (fun i r => tm_pA r (fun a r => tm_cI (h a) (fun k f => vp_in i k ∧ tm_w M_R_rises d u0 Q u S n 11 L (.int (f i.toNatClampNeg) :: r) h))) := tm_r_iaload (by decide +kernel) rfl
theorem ws_R_rises_11 : tm_s M_R_rises d u0 Q u S n 11 L st h = tm_p1 st (fun y r => tm_p1 r (fun x r => (y ≤ x → tm_w M_R_rises d u0 Q u S n 57 L r h) ∧ (¬ y ≤ x → tm_w M_R_rises d u0 Q u S n 14 L r h))) := tm_r_icge (off := 46) (by decide +kernel) rfl rfl
theorem ws_R_rises_14 : tm_s M_R_rises d u0 Q u S n 14 L st h = tm_gI L 2 (fun x => tm_w M_R_rises d u0 Q u S n 15 L (.int x :: st) h) := tm_r_iload_n (i := 2) (by decide +kernel) rfl rfl
theorem ws_R_rises_15 : tm_s M_R_rises d u0 Q u S n 15 L st h = tm_p1 st (fun x r => (x = 0 → tm_w M_R_rises d u0 Q u S n 49 L r h) ∧ (¬ x = 0 → tm_w M_R_rises d u0 Q u S n 18 L r h)) := tm_r_ifeq (off := 34) (by decide +kernel) rfl rfl
theorem ws_R_rises_18 : tm_s M_R_rises d u0 Q u S n 18 L st h = tm_gA L 0 (fun x => tm_w M_R_rises d u0 Q u S n 19 L (.ref x :: st) h) := tm_r_aload_n (i := 0) (by decide +kernel) rfl rfl
theorem ws_R_rises_19 : tm_s M_R_rises d u0 Q u S n 19 L st h = tm_gI L 1 (fun x => tm_w M_R_rises d u0 Q u S n 20 L (.int x :: st) h) := tm_r_iload_n (i := 1) (by decide +kernel) rfl rfl
theorem ws_R_rises_20 : tm_s M_R_rises d u0 Q u S n 20 L st h = tm_gA L 0 (fun x => tm_w M_R_rises d u0 Q u S n 21 L (.ref x :: st) h) := tm_r_aload_n (i := 0) (by decide +kernel) rfl rfl
theorem ws_R_rises_21 : tm_s M_R_rises d u0 Q u S n 21 L st h = tm_pA st (fun a r => tm_cO (h a) 5 (fun fs => tm_fv fs 4 (fun v => tm_w M_R_rises d u0 Q u S n 24 L (v :: r) h))) := tm_r_getf (i := 20) (by decide +kernel) rfl (by decide +kernel)
theorem ws_R_rises_24 : tm_s M_R_rises d u0 Q u S n 24 L st h = tm_gI L 3 (fun x => tm_w M_R_rises d u0 Q u S n 25 L (.int x :: st) h) := tm_r_iload_n (i := 3) (by decide +kernel) rfl rfl
theorem ws_R_rises_25 : tm_s M_R_rises d u0 Q u S n 25 L st h = tm_w M_R_rises d u0 Q u S n 26 L (.int 1 :: st) h := tm_r_iconst (k := 1) (by decide +kernel) rfl (by decide)
theorem ws_R_rises_26 : tm_s M_R_rises d u0 Q u S n 26 L st h = tm_p1 st (fun y r => tm_p1 r (fun x r => tm_w M_R_rises d u0 Q u S n 27 L (.int (x - y) :: r) h)) := tm_r_isub (by decide +kernel) rfl
theorem ws_R_rises_27 : tm_s M_R_rises d u0 Q u S n 27 L st h = tm_p1 st (fun i r => tm_pA r (fun a r => tm_cI (h a) (fun k f => vp_in i k ∧ tm_w M_R_rises d u0 Q u S n 28 L (.int (f i.toNatClampNeg) :: r) h))) := tm_r_iaload (by decide +kernel) rfl
theorem dd_R_rises_28 : decode (tm_cc M_R_rises) 28 = .ok (.invokevirtual 64, 3) := by decide +kernel
theorem ws_R_rises_28 : tm_s M_R_rises d u0 Q u S n 28 L st h = tm_T M_R_rises d u0 Q u 28 L st h := tm_r_invv dd_R_rises_28
theorem ws_R_rises_31 : tm_s M_R_rises d u0 Q u S n 31 L st h = tm_gA L 0 (fun x => tm_w M_R_rises d u0 Q u S n 32 L (.ref x :: st) h) := tm_r_aload_n (i := 0) (by decide +kernel) rfl rfl
theorem ws_R_rises_32 : tm_s M_R_rises d u0 Q u S n 32 L st h = tm_gI L 1 (fun x => tm_w M_R_rises d u0 Q u S n 33 L (.int x :: st) h) := tm_r_iload_n (i := 1) (by decide +kernel) rfl rfl
theorem ws_R_rises_33 : tm_s M_R_rises d u0 Q u S n 33 L st h = tm_gA L 0 (fun x => tm_w M_R_rises d u0 Q u S n 34 L (.ref x :: st) h) := tm_r_aload_n (i := 0) (by decide +kernel) rfl rfl
theorem ws_R_rises_34 : tm_s M_R_rises d u0 Q u S n 34 L st h = tm_pA st (fun a r => tm_cO (h a) 5 (fun fs => tm_fv fs 4 (fun v => tm_w M_R_rises d u0 Q u S n 37 L (v :: r) h))) := tm_r_getf (i := 20) (by decide +kernel) rfl (by decide +kernel)
theorem ws_R_rises_37 : tm_s M_R_rises d u0 Q u S n 37 L st h = tm_gI L 3 (fun x => tm_w M_R_rises d u0 Q u S n 38 L (.int x :: st) h) := tm_r_iload_n (i := 3) (by decide +kernel) rfl rfl
theorem ws_R_rises_38 : tm_s M_R_rises d u0 Q u S n 38 L st h = tm_p1 st (fun i r => tm_pA r (fun a r => tm_cI (h a) (fun k f => vp_in i k ∧ tm_w M_R_rises d u0 Q u S n 39 L (.int (f i.toNatClampNeg) :: r) h))) := tm_r_iaload (by decide +kernel) rfl
theorem dd_R_rises_39 : decode (tm_cc M_R_rises) 39 = .ok (.invokevirtual 64, 3) := by decide +kernel
theorem ws_R_rises_39 : tm_s M_R_rises d u0 Q u S n 39 L st h = tm_T M_R_rises d u0 Q u 39 L st h := tm_r_invv dd_R_rises_39
theorem ws_R_rises_42 : tm_s M_R_rises d u0 Q u S n 42 L st h = tm_p1 st (fun y r => tm_p1 r (fun x r => (y < x → tm_w M_R_rises d u0 Q u S n 49 L r h) ∧ (¬ y < x → tm_w M_R_rises d u0 Q u S n 45 L r h))) := tm_r_icgt (off := 7) (by decide +kernel) rfl rfl
theorem ws_R_rises_45 : tm_s M_R_rises d u0 Q u S n 45 L st h = tm_w M_R_rises d u0 Q u S n 46 L (.int 1 :: st) h := tm_r_iconst (k := 1) (by decide +kernel) rfl (by decide)
theorem ws_R_rises_46 : tm_s M_R_rises d u0 Q u S n 46 L st h = tm_w M_R_rises d u0 Q u S n 50 L st h := tm_r_goto (off := 4) (by decide +kernel) rfl
theorem ws_R_rises_49 : tm_s M_R_rises d u0 Q u S n 49 L st h = tm_w M_R_rises d u0 Q u S n 50 L (.int 0 :: st) h := tm_r_iconst (k := 0) (by decide +kernel) rfl (by decide)
theorem ws_R_rises_50 : tm_s M_R_rises d u0 Q u S n 50 L st h = tm_p1 st (fun x r => tm_w M_R_rises d u0 Q u S n 51 (L.set 2 (some (.int x))) r h) := tm_r_istore_n (i := 2) (by decide +kernel) rfl rfl (by decide)
theorem ws_R_rises_51 : tm_s M_R_rises d u0 Q u S n 51 L st h = tm_gI L 3 (fun x => tm_w M_R_rises d u0 Q u S n 54 (L.set 3 (some (.int (x + 1)))) st h) := tm_r_iinc (j := 3) (k := 1) (by decide +kernel) rfl (by decide) (by decide)
theorem ws_R_rises_54 : tm_s M_R_rises d u0 Q u S n 54 L st h = tm_w M_R_rises d u0 Q u S n 4 L st h := tm_r_goto (off := (-50)) (by decide +kernel) rfl
theorem ws_R_rises_57 : tm_s M_R_rises d u0 Q u S n 57 L st h = tm_gI L 2 (fun x => tm_w M_R_rises d u0 Q u S n 58 L (.int x :: st) h) := tm_r_iload_n (i := 2) (by decide +kernel) rfl rfl
theorem ws_R_rises_58 : tm_s M_R_rises d u0 Q u S n 58 L st h = tm_p1 st (fun x r => r = [] ∧ (x = 0 ∨ x = 1) ∧ Q (.inl (some (.int x))) h) := tm_r_zret (by decide +kernel) rfl
theorem ws_R_code_0 : tm_s M_R_code d u0 Q u S n 0 L st h = tm_gA L 0 (fun x => tm_w M_R_code d u0 Q u S n 1 L (.ref x :: st) h) := tm_r_aload_n (i := 0) (by decide +kernel) rfl rfl
theorem ws_R_code_1 : tm_s M_R_code d u0 Q u S n 1 L st h = tm_pA st (fun a r => tm_cO (h a) 5 (fun fs => tm_fv fs 1 (fun v => tm_w M_R_code d u0 Q u S n 4 L (v :: r) h))) := tm_r_getf (i := 7) (by decide +kernel) rfl (by decide +kernel)
theorem ws_R_code_4 : tm_s M_R_code d u0 Q u S n 4 L st h = tm_gI L 1 (fun x => tm_w M_R_code d u0 Q u S n 5 L (.int x :: st) h) := tm_r_iload_n (i := 1) (by decide +kernel) rfl rfl
theorem ws_R_code_5 : tm_s M_R_code d u0 Q u S n 5 L st h = tm_p1 st (fun i r => tm_pA r (fun a r => tm_cI (h a) (fun k f => vp_in i k ∧ tm_w M_R_code d u0 Q u S n 6 L (.int (f i.toNatClampNeg) :: r) h))) := tm_r_iaload (by decide +kernel) rfl
theorem ws_R_code_6 : tm_s M_R_code d u0 Q u S n 6 L st h = tm_p1 st (fun x r => tm_w M_R_code d u0 Q u S n 7 (L.set 2 (some (.int x))) r h) := tm_r_istore_n (i := 2) (by decide +kernel) rfl rfl (by decide)
theorem ws_R_code_7 : tm_s M_R_code d u0 Q u S n 7 L st h = tm_w M_R_code d u0 Q u S n 8 L (.int 0 :: st) h := tm_r_iconst (k := 0) (by decide +kernel) rfl (by decide)
theorem ws_R_code_8 : tm_s M_R_code d u0 Q u S n 8 L st h = tm_p1 st (fun x r => tm_w M_R_code d u0 Q u S n 9 (L.set 3 (some (.int x))) r h) := tm_r_istore_n (i := 3) (by decide +kernel) rfl rfl (by decide)
theorem ws_R_code_9 : tm_s M_R_code d u0 Q u S n 9 L st h = tm_w M_R_code d u0 Q u S n 10 L (.int 1 :: st) h := tm_r_iconst (k := 1) (by decide +kernel) rfl (by decide)
theorem ws_R_code_10 : tm_s M_R_code d u0 Q u S n 10 L st h = tm_p1 st (fun x r => tm_w M_R_code d u0 Q u S n 12 (L.set 4 (some (.int x))) r h) := tm_r_istore (j := 4) (by decide +kernel) rfl (by decide)
theorem ws_R_code_12 : tm_s M_R_code d u0 Q u S n 12 L st h = tm_gI L 4 (fun x => tm_w M_R_code d u0 Q u S n 14 L (.int x :: st) h) := tm_r_iload (j := 4) (by decide +kernel) rfl
theorem ws_R_code_14 : tm_s M_R_code d u0 Q u S n 14 L st h = tm_gI L 2 (fun x => tm_w M_R_code d u0 Q u S n 15 L (.int x :: st) h) := tm_r_iload_n (i := 2) (by decide +kernel) rfl rfl
theorem ws_R_code_15 : tm_s M_R_code d u0 Q u S n 15 L st h = tm_p1 st (fun y r => tm_p1 r (fun x r => (y ≤ x → tm_w M_R_code d u0 Q u S n 72 L r h) ∧ (¬ y ≤ x → tm_w M_R_code d u0 Q u S n 18 L r h))) := tm_r_icge (off := 57) (by decide +kernel) rfl rfl
theorem ws_R_code_18 : tm_s M_R_code d u0 Q u S n 18 L st h = tm_w M_R_code d u0 Q u S n 19 L (.int 0 :: st) h := tm_r_iconst (k := 0) (by decide +kernel) rfl (by decide)
theorem ws_R_code_19 : tm_s M_R_code d u0 Q u S n 19 L st h = tm_p1 st (fun x r => tm_w M_R_code d u0 Q u S n 21 (L.set 5 (some (.int x))) r h) := tm_r_istore (j := 5) (by decide +kernel) rfl (by decide)
theorem ws_R_code_21 : tm_s M_R_code d u0 Q u S n 21 L st h = tm_gI L 5 (fun x => tm_w M_R_code d u0 Q u S n 23 L (.int x :: st) h) := tm_r_iload (j := 5) (by decide +kernel) rfl
theorem ws_R_code_23 : tm_s M_R_code d u0 Q u S n 23 L st h = tm_gI L 4 (fun x => tm_w M_R_code d u0 Q u S n 25 L (.int x :: st) h) := tm_r_iload (j := 4) (by decide +kernel) rfl
theorem ws_R_code_25 : tm_s M_R_code d u0 Q u S n 25 L st h = tm_p1 st (fun y r => tm_p1 r (fun x r => (y ≤ x → tm_w M_R_code d u0 Q u S n 66 L r h) ∧ (¬ y ≤ x → tm_w M_R_code d u0 Q u S n 28 L r h))) := tm_r_icge (off := 41) (by decide +kernel) rfl rfl
theorem ws_R_code_28 : tm_s M_R_code d u0 Q u S n 28 L st h = tm_w M_R_code d u0 Q u S n 29 L (.int 2 :: st) h := tm_r_iconst (k := 2) (by decide +kernel) rfl (by decide)
theorem ws_R_code_29 : tm_s M_R_code d u0 Q u S n 29 L st h = tm_gI L 3 (fun x => tm_w M_R_code d u0 Q u S n 30 L (.int x :: st) h) := tm_r_iload_n (i := 3) (by decide +kernel) rfl rfl
theorem ws_R_code_30 : tm_s M_R_code d u0 Q u S n 30 L st h = tm_p1 st (fun y r => tm_p1 r (fun x r => tm_w M_R_code d u0 Q u S n 31 L (.int (x * y) :: r) h)) := tm_r_imul (by decide +kernel) rfl
theorem ws_R_code_31 : tm_s M_R_code d u0 Q u S n 31 L st h = tm_gA L 0 (fun x => tm_w M_R_code d u0 Q u S n 32 L (.ref x :: st) h) := tm_r_aload_n (i := 0) (by decide +kernel) rfl rfl
theorem ws_R_code_32 : tm_s M_R_code d u0 Q u S n 32 L st h = tm_gI L 1 (fun x => tm_w M_R_code d u0 Q u S n 33 L (.int x :: st) h) := tm_r_iload_n (i := 1) (by decide +kernel) rfl rfl
theorem ws_R_code_33 : tm_s M_R_code d u0 Q u S n 33 L st h = tm_gA L 0 (fun x => tm_w M_R_code d u0 Q u S n 34 L (.ref x :: st) h) := tm_r_aload_n (i := 0) (by decide +kernel) rfl rfl
theorem ws_R_code_34 : tm_s M_R_code d u0 Q u S n 34 L st h = tm_pA st (fun a r => tm_cO (h a) 5 (fun fs => tm_fv fs 4 (fun v => tm_w M_R_code d u0 Q u S n 37 L (v :: r) h))) := tm_r_getf (i := 20) (by decide +kernel) rfl (by decide +kernel)
theorem ws_R_code_37 : tm_s M_R_code d u0 Q u S n 37 L st h = tm_gI L 4 (fun x => tm_w M_R_code d u0 Q u S n 39 L (.int x :: st) h) := tm_r_iload (j := 4) (by decide +kernel) rfl
theorem ws_R_code_39 : tm_s M_R_code d u0 Q u S n 39 L st h = tm_p1 st (fun i r => tm_pA r (fun a r => tm_cI (h a) (fun k f => vp_in i k ∧ tm_w M_R_code d u0 Q u S n 40 L (.int (f i.toNatClampNeg) :: r) h))) := tm_r_iaload (by decide +kernel) rfl
theorem ws_R_code_40 : tm_s M_R_code d u0 Q u S n 40 L st h = tm_gA L 0 (fun x => tm_w M_R_code d u0 Q u S n 41 L (.ref x :: st) h) := tm_r_aload_n (i := 0) (by decide +kernel) rfl rfl
theorem ws_R_code_41 : tm_s M_R_code d u0 Q u S n 41 L st h = tm_pA st (fun a r => tm_cO (h a) 5 (fun fs => tm_fv fs 4 (fun v => tm_w M_R_code d u0 Q u S n 44 L (v :: r) h))) := tm_r_getf (i := 20) (by decide +kernel) rfl (by decide +kernel)
theorem ws_R_code_44 : tm_s M_R_code d u0 Q u S n 44 L st h = tm_gI L 5 (fun x => tm_w M_R_code d u0 Q u S n 46 L (.int x :: st) h) := tm_r_iload (j := 5) (by decide +kernel) rfl
theorem ws_R_code_46 : tm_s M_R_code d u0 Q u S n 46 L st h = tm_p1 st (fun i r => tm_pA r (fun a r => tm_cI (h a) (fun k f => vp_in i k ∧ tm_w M_R_code d u0 Q u S n 47 L (.int (f i.toNatClampNeg) :: r) h))) := tm_r_iaload (by decide +kernel) rfl
theorem dd_R_code_47 : decode (tm_cc M_R_code) 47 = .ok (.invokevirtual 49, 3) := by decide +kernel
theorem ws_R_code_47 : tm_s M_R_code d u0 Q u S n 47 L st h = tm_T M_R_code d u0 Q u 47 L st h := tm_r_invv dd_R_code_47
theorem ws_R_code_50 : tm_s M_R_code d u0 Q u S n 50 L st h = tm_p1 st (fun x r => (x = 0 → tm_w M_R_code d u0 Q u S n 57 L r h) ∧ (¬ x = 0 → tm_w M_R_code d u0 Q u S n 53 L r h)) := tm_r_ifeq (off := 7) (by decide +kernel) rfl rfl
theorem ws_R_code_53 : tm_s M_R_code d u0 Q u S n 53 L st h = tm_w M_R_code d u0 Q u S n 54 L (.int 1 :: st) h := tm_r_iconst (k := 1) (by decide +kernel) rfl (by decide)
theorem ws_R_code_54 : tm_s M_R_code d u0 Q u S n 54 L st h = tm_w M_R_code d u0 Q u S n 58 L st h := tm_r_goto (off := 4) (by decide +kernel) rfl
theorem ws_R_code_57 : tm_s M_R_code d u0 Q u S n 57 L st h = tm_w M_R_code d u0 Q u S n 58 L (.int 0 :: st) h := tm_r_iconst (k := 0) (by decide +kernel) rfl (by decide)
theorem ws_R_code_58 : tm_s M_R_code d u0 Q u S n 58 L st h = tm_p1 st (fun y r => tm_p1 r (fun x r => tm_w M_R_code d u0 Q u S n 59 L (.int (x + y) :: r) h)) := tm_r_iadd (by decide +kernel) rfl
theorem ws_R_code_59 : tm_s M_R_code d u0 Q u S n 59 L st h = tm_p1 st (fun x r => tm_w M_R_code d u0 Q u S n 60 (L.set 3 (some (.int x))) r h) := tm_r_istore_n (i := 3) (by decide +kernel) rfl rfl (by decide)
theorem ws_R_code_60 : tm_s M_R_code d u0 Q u S n 60 L st h = tm_gI L 5 (fun x => tm_w M_R_code d u0 Q u S n 63 (L.set 5 (some (.int (x + 1)))) st h) := tm_r_iinc (j := 5) (k := 1) (by decide +kernel) rfl (by decide) (by decide)
theorem ws_R_code_63 : tm_s M_R_code d u0 Q u S n 63 L st h = tm_w M_R_code d u0 Q u S n 21 L st h := tm_r_goto (off := (-42)) (by decide +kernel) rfl
theorem ws_R_code_66 : tm_s M_R_code d u0 Q u S n 66 L st h = tm_gI L 4 (fun x => tm_w M_R_code d u0 Q u S n 69 (L.set 4 (some (.int (x + 1)))) st h) := tm_r_iinc (j := 4) (k := 1) (by decide +kernel) rfl (by decide) (by decide)
theorem ws_R_code_69 : tm_s M_R_code d u0 Q u S n 69 L st h = tm_w M_R_code d u0 Q u S n 12 L st h := tm_r_goto (off := (-57)) (by decide +kernel) rfl
theorem ws_R_code_72 : tm_s M_R_code d u0 Q u S n 72 L st h = tm_gI L 3 (fun x => tm_w M_R_code d u0 Q u S n 73 L (.int x :: st) h) := tm_r_iload_n (i := 3) (by decide +kernel) rfl rfl
theorem ws_R_code_73 : tm_s M_R_code d u0 Q u S n 73 L st h = tm_p1 st (fun x r => r = [] ∧ Q (.inl (some (.int x))) h) := tm_r_iret (by decide +kernel) rfl
theorem ws_R_seek_0 : tm_s M_R_seek d u0 Q u S n 0 L st h = tm_gA L 0 (fun x => tm_w M_R_seek d u0 Q u S n 1 L (.ref x :: st) h) := tm_r_aload_n (i := 0) (by decide +kernel) rfl rfl
theorem dd_R_seek_1 : decode (tm_cc M_R_seek) 1 = .ok (.invokevirtual 80, 3) := by decide +kernel
theorem ws_R_seek_1 : tm_s M_R_seek d u0 Q u S n 1 L st h = tm_T M_R_seek d u0 Q u 1 L st h := tm_r_invv dd_R_seek_1
theorem ws_R_seek_4 : tm_s M_R_seek d u0 Q u S n 4 L st h = tm_gA L 0 (fun x => tm_w M_R_seek d u0 Q u S n 5 L (.ref x :: st) h) := tm_r_aload_n (i := 0) (by decide +kernel) rfl rfl
theorem ws_R_seek_5 : tm_s M_R_seek d u0 Q u S n 5 L st h = tm_w M_R_seek d u0 Q u S n 6 L (.int (-1) :: st) h := tm_r_iconst (k := (-1)) (by decide +kernel) rfl (by decide)
theorem ws_R_seek_6 : tm_s M_R_seek d u0 Q u S n 6 L st h = tm_p1 st (fun v r => tm_pA r (fun a r => tm_cO (h a) 5 (fun fs => 6 < fs.length ∧ tm_w M_R_seek d u0 Q u S n 9 L r (tm_up h a (tm_o 5 (fs.set 6 (.int v))))))) := tm_r_puti (i := 83) (by decide +kernel) rfl (by decide +kernel)
theorem ws_R_seek_9 : tm_s M_R_seek d u0 Q u S n 9 L st h = tm_w M_R_seek d u0 Q u S n 10 L (.int 1 :: st) h := tm_r_iconst (k := 1) (by decide +kernel) rfl (by decide)
theorem ws_R_seek_10 : tm_s M_R_seek d u0 Q u S n 10 L st h = tm_p1 st (fun x r => tm_w M_R_seek d u0 Q u S n 11 (L.set 2 (some (.int x))) r h) := tm_r_istore_n (i := 2) (by decide +kernel) rfl rfl (by decide)
theorem ws_R_seek_11 : tm_s M_R_seek d u0 Q u S n 11 L st h = tm_gI L 2 (fun x => tm_w M_R_seek d u0 Q u S n 12 L (.int x :: st) h) := tm_r_iload_n (i := 2) (by decide +kernel) rfl rfl
theorem ws_R_seek_12 : tm_s M_R_seek d u0 Q u S n 12 L st h = tm_p1 st (fun x r => (x = 0 → tm_w M_R_seek d u0 Q u S n 93 L r h) ∧ (¬ x = 0 → tm_w M_R_seek d u0 Q u S n 15 L r h)) := tm_r_ifeq (off := 81) (by decide +kernel) rfl rfl
theorem ws_R_seek_15 : tm_s M_R_seek d u0 Q u S n 15 L st h = tm_gA L 0 (fun x => tm_w M_R_seek d u0 Q u S n 16 L (.ref x :: st) h) := tm_r_aload_n (i := 0) (by decide +kernel) rfl rfl
theorem ws_R_seek_16 : tm_s M_R_seek d u0 Q u S n 16 L st h = tm_gI L 1 (fun x => tm_w M_R_seek d u0 Q u S n 17 L (.int x :: st) h) := tm_r_iload_n (i := 1) (by decide +kernel) rfl rfl
theorem dd_R_seek_17 : decode (tm_cc M_R_seek) 17 = .ok (.invokevirtual 86, 3) := by decide +kernel
theorem ws_R_seek_17 : tm_s M_R_seek d u0 Q u S n 17 L st h = tm_T M_R_seek d u0 Q u 17 L st h := tm_r_invv dd_R_seek_17
theorem ws_R_seek_20 : tm_s M_R_seek d u0 Q u S n 20 L st h = tm_p1 st (fun x r => (x = 0 → tm_w M_R_seek d u0 Q u S n 79 L r h) ∧ (¬ x = 0 → tm_w M_R_seek d u0 Q u S n 23 L r h)) := tm_r_ifeq (off := 59) (by decide +kernel) rfl rfl
theorem ws_R_seek_23 : tm_s M_R_seek d u0 Q u S n 23 L st h = tm_gA L 0 (fun x => tm_w M_R_seek d u0 Q u S n 24 L (.ref x :: st) h) := tm_r_aload_n (i := 0) (by decide +kernel) rfl rfl
theorem ws_R_seek_24 : tm_s M_R_seek d u0 Q u S n 24 L st h = tm_gI L 1 (fun x => tm_w M_R_seek d u0 Q u S n 25 L (.int x :: st) h) := tm_r_iload_n (i := 1) (by decide +kernel) rfl rfl
theorem dd_R_seek_25 : decode (tm_cc M_R_seek) 25 = .ok (.invokevirtual 89, 3) := by decide +kernel
theorem ws_R_seek_25 : tm_s M_R_seek d u0 Q u S n 25 L st h = tm_T M_R_seek d u0 Q u 25 L st h := tm_r_invv dd_R_seek_25
theorem ws_R_seek_28 : tm_s M_R_seek d u0 Q u S n 28 L st h = tm_p1 st (fun x r => tm_w M_R_seek d u0 Q u S n 29 (L.set 3 (some (.int x))) r h) := tm_r_istore_n (i := 3) (by decide +kernel) rfl rfl (by decide)
theorem ws_R_seek_29 : tm_s M_R_seek d u0 Q u S n 29 L st h = tm_gA L 0 (fun x => tm_w M_R_seek d u0 Q u S n 30 L (.ref x :: st) h) := tm_r_aload_n (i := 0) (by decide +kernel) rfl rfl
theorem ws_R_seek_30 : tm_s M_R_seek d u0 Q u S n 30 L st h = tm_pA st (fun a r => tm_cO (h a) 5 (fun fs => tm_fv fs 6 (fun v => tm_w M_R_seek d u0 Q u S n 33 L (v :: r) h))) := tm_r_getf (i := 83) (by decide +kernel) rfl (by decide +kernel)
theorem ws_R_seek_33 : tm_s M_R_seek d u0 Q u S n 33 L st h = tm_p1 st (fun x r => (x < 0 → tm_w M_R_seek d u0 Q u S n 44 L r h) ∧ (¬ x < 0 → tm_w M_R_seek d u0 Q u S n 36 L r h)) := tm_r_iflt (off := 11) (by decide +kernel) rfl rfl
theorem ws_R_seek_36 : tm_s M_R_seek d u0 Q u S n 36 L st h = tm_gI L 3 (fun x => tm_w M_R_seek d u0 Q u S n 37 L (.int x :: st) h) := tm_r_iload_n (i := 3) (by decide +kernel) rfl rfl
theorem ws_R_seek_37 : tm_s M_R_seek d u0 Q u S n 37 L st h = tm_gA L 0 (fun x => tm_w M_R_seek d u0 Q u S n 38 L (.ref x :: st) h) := tm_r_aload_n (i := 0) (by decide +kernel) rfl rfl
theorem ws_R_seek_38 : tm_s M_R_seek d u0 Q u S n 38 L st h = tm_pA st (fun a r => tm_cO (h a) 5 (fun fs => tm_fv fs 6 (fun v => tm_w M_R_seek d u0 Q u S n 41 L (v :: r) h))) := tm_r_getf (i := 83) (by decide +kernel) rfl (by decide +kernel)
theorem ws_R_seek_41 : tm_s M_R_seek d u0 Q u S n 41 L st h = tm_p1 st (fun y r => tm_p1 r (fun x r => (y ≤ x → tm_w M_R_seek d u0 Q u S n 79 L r h) ∧ (¬ y ≤ x → tm_w M_R_seek d u0 Q u S n 44 L r h))) := tm_r_icge (off := 38) (by decide +kernel) rfl rfl
theorem ws_R_seek_44 : tm_s M_R_seek d u0 Q u S n 44 L st h = tm_gA L 0 (fun x => tm_w M_R_seek d u0 Q u S n 45 L (.ref x :: st) h) := tm_r_aload_n (i := 0) (by decide +kernel) rfl rfl
theorem ws_R_seek_45 : tm_s M_R_seek d u0 Q u S n 45 L st h = tm_gI L 3 (fun x => tm_w M_R_seek d u0 Q u S n 46 L (.int x :: st) h) := tm_r_iload_n (i := 3) (by decide +kernel) rfl rfl
theorem ws_R_seek_46 : tm_s M_R_seek d u0 Q u S n 46 L st h = tm_p1 st (fun v r => tm_pA r (fun a r => tm_cO (h a) 5 (fun fs => 6 < fs.length ∧ tm_w M_R_seek d u0 Q u S n 49 L r (tm_up h a (tm_o 5 (fs.set 6 (.int v))))))) := tm_r_puti (i := 83) (by decide +kernel) rfl (by decide +kernel)
theorem ws_R_seek_49 : tm_s M_R_seek d u0 Q u S n 49 L st h = tm_w M_R_seek d u0 Q u S n 50 L (.int 0 :: st) h := tm_r_iconst (k := 0) (by decide +kernel) rfl (by decide)
theorem ws_R_seek_50 : tm_s M_R_seek d u0 Q u S n 50 L st h = tm_p1 st (fun x r => tm_w M_R_seek d u0 Q u S n 52 (L.set 4 (some (.int x))) r h) := tm_r_istore (j := 4) (by decide +kernel) rfl (by decide)
theorem ws_R_seek_52 : tm_s M_R_seek d u0 Q u S n 52 L st h = tm_gI L 4 (fun x => tm_w M_R_seek d u0 Q u S n 54 L (.int x :: st) h) := tm_r_iload (j := 4) (by decide +kernel) rfl
theorem ws_R_seek_54 : tm_s M_R_seek d u0 Q u S n 54 L st h = tm_w M_R_seek d u0 Q u S n 56 L (.int 7 :: st) h := tm_r_bipush (k := 7) (by decide +kernel) rfl (by decide)
theorem ws_R_seek_56 : tm_s M_R_seek d u0 Q u S n 56 L st h = tm_p1 st (fun y r => tm_p1 r (fun x r => (y ≤ x → tm_w M_R_seek d u0 Q u S n 79 L r h) ∧ (¬ y ≤ x → tm_w M_R_seek d u0 Q u S n 59 L r h))) := tm_r_icge (off := 23) (by decide +kernel) rfl rfl
theorem ws_R_seek_59 : tm_s M_R_seek d u0 Q u S n 59 L st h = tm_gA L 0 (fun x => tm_w M_R_seek d u0 Q u S n 60 L (.ref x :: st) h) := tm_r_aload_n (i := 0) (by decide +kernel) rfl rfl
theorem ws_R_seek_60 : tm_s M_R_seek d u0 Q u S n 60 L st h = tm_pA st (fun a r => tm_cO (h a) 5 (fun fs => tm_fv fs 5 (fun v => tm_w M_R_seek d u0 Q u S n 63 L (v :: r) h))) := tm_r_getf (i := 23) (by decide +kernel) rfl (by decide +kernel)
theorem ws_R_seek_63 : tm_s M_R_seek d u0 Q u S n 63 L st h = tm_gI L 4 (fun x => tm_w M_R_seek d u0 Q u S n 65 L (.int x :: st) h) := tm_r_iload (j := 4) (by decide +kernel) rfl
theorem ws_R_seek_65 : tm_s M_R_seek d u0 Q u S n 65 L st h = tm_gA L 0 (fun x => tm_w M_R_seek d u0 Q u S n 66 L (.ref x :: st) h) := tm_r_aload_n (i := 0) (by decide +kernel) rfl rfl
theorem ws_R_seek_66 : tm_s M_R_seek d u0 Q u S n 66 L st h = tm_pA st (fun a r => tm_cO (h a) 5 (fun fs => tm_fv fs 4 (fun v => tm_w M_R_seek d u0 Q u S n 69 L (v :: r) h))) := tm_r_getf (i := 20) (by decide +kernel) rfl (by decide +kernel)
theorem ws_R_seek_69 : tm_s M_R_seek d u0 Q u S n 69 L st h = tm_gI L 4 (fun x => tm_w M_R_seek d u0 Q u S n 71 L (.int x :: st) h) := tm_r_iload (j := 4) (by decide +kernel) rfl
theorem ws_R_seek_71 : tm_s M_R_seek d u0 Q u S n 71 L st h = tm_p1 st (fun i r => tm_pA r (fun a r => tm_cI (h a) (fun k f => vp_in i k ∧ tm_w M_R_seek d u0 Q u S n 72 L (.int (f i.toNatClampNeg) :: r) h))) := tm_r_iaload (by decide +kernel) rfl
theorem ws_R_seek_72 : tm_s M_R_seek d u0 Q u S n 72 L st h = tm_p1 st (fun x r => tm_p1 r (fun i r => tm_pA r (fun a r => tm_cI (h a) (fun k f => a < tm_K ∧ vp_in i k ∧ tm_w M_R_seek d u0 Q u S n 73 L r (tm_up h a (tm_i k (upd f i.toNatClampNeg x))))))) := tm_r_iastore (by decide +kernel) rfl
theorem ws_R_seek_73 : tm_s M_R_seek d u0 Q u S n 73 L st h = tm_gI L 4 (fun x => tm_w M_R_seek d u0 Q u S n 76 (L.set 4 (some (.int (x + 1)))) st h) := tm_r_iinc (j := 4) (k := 1) (by decide +kernel) rfl (by decide) (by decide)
theorem ws_R_seek_76 : tm_s M_R_seek d u0 Q u S n 76 L st h = tm_w M_R_seek d u0 Q u S n 52 L st h := tm_r_goto (off := (-24)) (by decide +kernel) rfl
theorem ws_R_seek_79 : tm_s M_R_seek d u0 Q u S n 79 L st h = tm_gA L 0 (fun x => tm_w M_R_seek d u0 Q u S n 80 L (.ref x :: st) h) := tm_r_aload_n (i := 0) (by decide +kernel) rfl rfl
theorem ws_R_seek_80 : tm_s M_R_seek d u0 Q u S n 80 L st h = tm_gA L 0 (fun x => tm_w M_R_seek d u0 Q u S n 81 L (.ref x :: st) h) := tm_r_aload_n (i := 0) (by decide +kernel) rfl rfl
theorem ws_R_seek_81 : tm_s M_R_seek d u0 Q u S n 81 L st h = tm_pA st (fun a r => tm_cO (h a) 5 (fun fs => tm_fv fs 1 (fun v => tm_w M_R_seek d u0 Q u S n 84 L (v :: r) h))) := tm_r_getf (i := 7) (by decide +kernel) rfl (by decide +kernel)
theorem ws_R_seek_84 : tm_s M_R_seek d u0 Q u S n 84 L st h = tm_gI L 1 (fun x => tm_w M_R_seek d u0 Q u S n 85 L (.int x :: st) h) := tm_r_iload_n (i := 1) (by decide +kernel) rfl rfl
theorem ws_R_seek_85 : tm_s M_R_seek d u0 Q u S n 85 L st h = tm_p1 st (fun i r => tm_pA r (fun a r => tm_cI (h a) (fun k f => vp_in i k ∧ tm_w M_R_seek d u0 Q u S n 86 L (.int (f i.toNatClampNeg) :: r) h))) := tm_r_iaload (by decide +kernel) rfl
theorem dd_R_seek_86 : decode (tm_cc M_R_seek) 86 = .ok (.invokevirtual 92, 3) := by decide +kernel
theorem ws_R_seek_86 : tm_s M_R_seek d u0 Q u S n 86 L st h = tm_T M_R_seek d u0 Q u 86 L st h := tm_r_invv dd_R_seek_86
theorem ws_R_seek_89 : tm_s M_R_seek d u0 Q u S n 89 L st h = tm_p1 st (fun x r => tm_w M_R_seek d u0 Q u S n 90 (L.set 2 (some (.int x))) r h) := tm_r_istore_n (i := 2) (by decide +kernel) rfl rfl (by decide)
theorem ws_R_seek_90 : tm_s M_R_seek d u0 Q u S n 90 L st h = tm_w M_R_seek d u0 Q u S n 11 L st h := tm_r_goto (off := (-79)) (by decide +kernel) rfl
theorem ws_R_seek_93 : tm_s M_R_seek d u0 Q u S n 93 L st h = (st = [] ∧ Q (.inl none) h) := tm_r_vret (by decide +kernel) rfl
theorem ws_R_lays_0 : tm_s M_R_lays d u0 Q u S n 0 L st h = tm_w M_R_lays d u0 Q u S n 1 L (.int 0 :: st) h := tm_r_iconst (k := 0) (by decide +kernel) rfl (by decide)
theorem ws_R_lays_1 : tm_s M_R_lays d u0 Q u S n 1 L st h = tm_p1 st (fun x r => tm_w M_R_lays d u0 Q u S n 2 (L.set 2 (some (.int x))) r h) := tm_r_istore_n (i := 2) (by decide +kernel) rfl rfl (by decide)
theorem ws_R_lays_2 : tm_s M_R_lays d u0 Q u S n 2 L st h = tm_gI L 2 (fun x => tm_w M_R_lays d u0 Q u S n 3 L (.int x :: st) h) := tm_r_iload_n (i := 2) (by decide +kernel) rfl rfl
theorem ws_R_lays_3 : tm_s M_R_lays d u0 Q u S n 3 L st h = tm_gA L 0 (fun x => tm_w M_R_lays d u0 Q u S n 4 L (.ref x :: st) h) := tm_r_aload_n (i := 0) (by decide +kernel) rfl rfl
theorem ws_R_lays_4 : tm_s M_R_lays d u0 Q u S n 4 L st h = tm_pA st (fun a r => tm_cO (h a) 5 (fun fs => tm_fv fs 1 (fun v => tm_w M_R_lays d u0 Q u S n 7 L (v :: r) h))) := tm_r_getf (i := 7) (by decide +kernel) rfl (by decide +kernel)
theorem ws_R_lays_7 : tm_s M_R_lays d u0 Q u S n 7 L st h = tm_gI L 1 (fun x => tm_w M_R_lays d u0 Q u S n 8 L (.int x :: st) h) := tm_r_iload_n (i := 1) (by decide +kernel) rfl rfl
theorem ws_R_lays_8 : tm_s M_R_lays d u0 Q u S n 8 L st h = tm_p1 st (fun i r => tm_pA r (fun a r => tm_cI (h a) (fun k f => vp_in i k ∧ tm_w M_R_lays d u0 Q u S n 9 L (.int (f i.toNatClampNeg) :: r) h))) := tm_r_iaload (by decide +kernel) rfl
theorem ws_R_lays_9 : tm_s M_R_lays d u0 Q u S n 9 L st h = tm_p1 st (fun y r => tm_p1 r (fun x r => (y ≤ x → tm_w M_R_lays d u0 Q u S n 82 L r h) ∧ (¬ y ≤ x → tm_w M_R_lays d u0 Q u S n 12 L r h))) := tm_r_icge (off := 73) (by decide +kernel) rfl rfl
theorem ws_R_lays_12 : tm_s M_R_lays d u0 Q u S n 12 L st h = tm_gA L 0 (fun x => tm_w M_R_lays d u0 Q u S n 13 L (.ref x :: st) h) := tm_r_aload_n (i := 0) (by decide +kernel) rfl rfl
theorem ws_R_lays_13 : tm_s M_R_lays d u0 Q u S n 13 L st h = tm_gI L 1 (fun x => tm_w M_R_lays d u0 Q u S n 14 L (.int x :: st) h) := tm_r_iload_n (i := 1) (by decide +kernel) rfl rfl
theorem ws_R_lays_14 : tm_s M_R_lays d u0 Q u S n 14 L st h = tm_gI L 2 (fun x => tm_w M_R_lays d u0 Q u S n 15 L (.int x :: st) h) := tm_r_iload_n (i := 2) (by decide +kernel) rfl rfl
theorem dd_R_lays_15 : decode (tm_cc M_R_lays) 15 = .ok (.invokevirtual 64, 3) := by decide +kernel
theorem ws_R_lays_15 : tm_s M_R_lays d u0 Q u S n 15 L st h = tm_T M_R_lays d u0 Q u 15 L st h := tm_r_invv dd_R_lays_15
theorem ws_R_lays_18 : tm_s M_R_lays d u0 Q u S n 18 L st h = tm_gA L 0 (fun x => tm_w M_R_lays d u0 Q u S n 19 L (.ref x :: st) h) := tm_r_aload_n (i := 0) (by decide +kernel) rfl rfl
theorem ws_R_lays_19 : tm_s M_R_lays d u0 Q u S n 19 L st h = tm_gI L 1 (fun x => tm_w M_R_lays d u0 Q u S n 20 L (.int x :: st) h) := tm_r_iload_n (i := 1) (by decide +kernel) rfl rfl
theorem ws_R_lays_20 : tm_s M_R_lays d u0 Q u S n 20 L st h = tm_gA L 0 (fun x => tm_w M_R_lays d u0 Q u S n 21 L (.ref x :: st) h) := tm_r_aload_n (i := 0) (by decide +kernel) rfl rfl
theorem ws_R_lays_21 : tm_s M_R_lays d u0 Q u S n 21 L st h = tm_pA st (fun a r => tm_cO (h a) 5 (fun fs => tm_fv fs 4 (fun v => tm_w M_R_lays d u0 Q u S n 24 L (v :: r) h))) := tm_r_getf (i := 20) (by decide +kernel) rfl (by decide +kernel)
theorem ws_R_lays_24 : tm_s M_R_lays d u0 Q u S n 24 L st h = tm_gI L 2 (fun x => tm_w M_R_lays d u0 Q u S n 25 L (.int x :: st) h) := tm_r_iload_n (i := 2) (by decide +kernel) rfl rfl
theorem ws_R_lays_25 : tm_s M_R_lays d u0 Q u S n 25 L st h = tm_p1 st (fun i r => tm_pA r (fun a r => tm_cI (h a) (fun k f => vp_in i k ∧ tm_w M_R_lays d u0 Q u S n 26 L (.int (f i.toNatClampNeg) :: r) h))) := tm_r_iaload (by decide +kernel) rfl
theorem dd_R_lays_26 : decode (tm_cc M_R_lays) 26 = .ok (.invokevirtual 64, 3) := by decide +kernel
theorem ws_R_lays_26 : tm_s M_R_lays d u0 Q u S n 26 L st h = tm_T M_R_lays d u0 Q u 26 L st h := tm_r_invv dd_R_lays_26
theorem ws_R_lays_29 : tm_s M_R_lays d u0 Q u S n 29 L st h = tm_p1 st (fun y r => tm_p1 r (fun x r => (x = y → tm_w M_R_lays d u0 Q u S n 34 L r h) ∧ (¬ x = y → tm_w M_R_lays d u0 Q u S n 32 L r h))) := tm_r_iceq (off := 5) (by decide +kernel) rfl rfl
theorem ws_R_lays_32 : tm_s M_R_lays d u0 Q u S n 32 L st h = tm_w M_R_lays d u0 Q u S n 33 L (.int 0 :: st) h := tm_r_iconst (k := 0) (by decide +kernel) rfl (by decide)
theorem ws_R_lays_33 : tm_s M_R_lays d u0 Q u S n 33 L st h = tm_p1 st (fun x r => r = [] ∧ (x = 0 ∨ x = 1) ∧ Q (.inl (some (.int x))) h) := tm_r_zret (by decide +kernel) rfl
theorem ws_R_lays_34 : tm_s M_R_lays d u0 Q u S n 34 L st h = tm_w M_R_lays d u0 Q u S n 35 L (.int 0 :: st) h := tm_r_iconst (k := 0) (by decide +kernel) rfl (by decide)
theorem ws_R_lays_35 : tm_s M_R_lays d u0 Q u S n 35 L st h = tm_p1 st (fun x r => tm_w M_R_lays d u0 Q u S n 36 (L.set 3 (some (.int x))) r h) := tm_r_istore_n (i := 3) (by decide +kernel) rfl rfl (by decide)
theorem ws_R_lays_36 : tm_s M_R_lays d u0 Q u S n 36 L st h = tm_gI L 3 (fun x => tm_w M_R_lays d u0 Q u S n 37 L (.int x :: st) h) := tm_r_iload_n (i := 3) (by decide +kernel) rfl rfl
theorem ws_R_lays_37 : tm_s M_R_lays d u0 Q u S n 37 L st h = tm_gI L 2 (fun x => tm_w M_R_lays d u0 Q u S n 38 L (.int x :: st) h) := tm_r_iload_n (i := 2) (by decide +kernel) rfl rfl
theorem ws_R_lays_38 : tm_s M_R_lays d u0 Q u S n 38 L st h = tm_p1 st (fun y r => tm_p1 r (fun x r => (y ≤ x → tm_w M_R_lays d u0 Q u S n 76 L r h) ∧ (¬ y ≤ x → tm_w M_R_lays d u0 Q u S n 41 L r h))) := tm_r_icge (off := 38) (by decide +kernel) rfl rfl
theorem ws_R_lays_41 : tm_s M_R_lays d u0 Q u S n 41 L st h = tm_gA L 0 (fun x => tm_w M_R_lays d u0 Q u S n 42 L (.ref x :: st) h) := tm_r_aload_n (i := 0) (by decide +kernel) rfl rfl
theorem ws_R_lays_42 : tm_s M_R_lays d u0 Q u S n 42 L st h = tm_gI L 1 (fun x => tm_w M_R_lays d u0 Q u S n 43 L (.int x :: st) h) := tm_r_iload_n (i := 1) (by decide +kernel) rfl rfl
theorem ws_R_lays_43 : tm_s M_R_lays d u0 Q u S n 43 L st h = tm_gI L 2 (fun x => tm_w M_R_lays d u0 Q u S n 44 L (.int x :: st) h) := tm_r_iload_n (i := 2) (by decide +kernel) rfl rfl
theorem ws_R_lays_44 : tm_s M_R_lays d u0 Q u S n 44 L st h = tm_gI L 3 (fun x => tm_w M_R_lays d u0 Q u S n 45 L (.int x :: st) h) := tm_r_iload_n (i := 3) (by decide +kernel) rfl rfl
theorem dd_R_lays_45 : decode (tm_cc M_R_lays) 45 = .ok (.invokevirtual 49, 3) := by decide +kernel
theorem ws_R_lays_45 : tm_s M_R_lays d u0 Q u S n 45 L st h = tm_T M_R_lays d u0 Q u 45 L st h := tm_r_invv dd_R_lays_45
theorem ws_R_lays_48 : tm_s M_R_lays d u0 Q u S n 48 L st h = tm_gA L 0 (fun x => tm_w M_R_lays d u0 Q u S n 49 L (.ref x :: st) h) := tm_r_aload_n (i := 0) (by decide +kernel) rfl rfl
theorem ws_R_lays_49 : tm_s M_R_lays d u0 Q u S n 49 L st h = tm_gI L 1 (fun x => tm_w M_R_lays d u0 Q u S n 50 L (.int x :: st) h) := tm_r_iload_n (i := 1) (by decide +kernel) rfl rfl
theorem ws_R_lays_50 : tm_s M_R_lays d u0 Q u S n 50 L st h = tm_gA L 0 (fun x => tm_w M_R_lays d u0 Q u S n 51 L (.ref x :: st) h) := tm_r_aload_n (i := 0) (by decide +kernel) rfl rfl
theorem ws_R_lays_51 : tm_s M_R_lays d u0 Q u S n 51 L st h = tm_pA st (fun a r => tm_cO (h a) 5 (fun fs => tm_fv fs 4 (fun v => tm_w M_R_lays d u0 Q u S n 54 L (v :: r) h))) := tm_r_getf (i := 20) (by decide +kernel) rfl (by decide +kernel)
theorem ws_R_lays_54 : tm_s M_R_lays d u0 Q u S n 54 L st h = tm_gI L 2 (fun x => tm_w M_R_lays d u0 Q u S n 55 L (.int x :: st) h) := tm_r_iload_n (i := 2) (by decide +kernel) rfl rfl
theorem ws_R_lays_55 : tm_s M_R_lays d u0 Q u S n 55 L st h = tm_p1 st (fun i r => tm_pA r (fun a r => tm_cI (h a) (fun k f => vp_in i k ∧ tm_w M_R_lays d u0 Q u S n 56 L (.int (f i.toNatClampNeg) :: r) h))) := tm_r_iaload (by decide +kernel) rfl
theorem ws_R_lays_56 : tm_s M_R_lays d u0 Q u S n 56 L st h = tm_gA L 0 (fun x => tm_w M_R_lays d u0 Q u S n 57 L (.ref x :: st) h) := tm_r_aload_n (i := 0) (by decide +kernel) rfl rfl
theorem ws_R_lays_57 : tm_s M_R_lays d u0 Q u S n 57 L st h = tm_pA st (fun a r => tm_cO (h a) 5 (fun fs => tm_fv fs 4 (fun v => tm_w M_R_lays d u0 Q u S n 60 L (v :: r) h))) := tm_r_getf (i := 20) (by decide +kernel) rfl (by decide +kernel)
theorem ws_R_lays_60 : tm_s M_R_lays d u0 Q u S n 60 L st h = tm_gI L 3 (fun x => tm_w M_R_lays d u0 Q u S n 61 L (.int x :: st) h) := tm_r_iload_n (i := 3) (by decide +kernel) rfl rfl
theorem ws_R_lays_61 : tm_s M_R_lays d u0 Q u S n 61 L st h = tm_p1 st (fun i r => tm_pA r (fun a r => tm_cI (h a) (fun k f => vp_in i k ∧ tm_w M_R_lays d u0 Q u S n 62 L (.int (f i.toNatClampNeg) :: r) h))) := tm_r_iaload (by decide +kernel) rfl
theorem dd_R_lays_62 : decode (tm_cc M_R_lays) 62 = .ok (.invokevirtual 49, 3) := by decide +kernel
theorem ws_R_lays_62 : tm_s M_R_lays d u0 Q u S n 62 L st h = tm_T M_R_lays d u0 Q u 62 L st h := tm_r_invv dd_R_lays_62
theorem ws_R_lays_65 : tm_s M_R_lays d u0 Q u S n 65 L st h = tm_p1 st (fun y r => tm_p1 r (fun x r => (x = y → tm_w M_R_lays d u0 Q u S n 70 L r h) ∧ (¬ x = y → tm_w M_R_lays d u0 Q u S n 68 L r h))) := tm_r_iceq (off := 5) (by decide +kernel) rfl rfl
theorem ws_R_lays_68 : tm_s M_R_lays d u0 Q u S n 68 L st h = tm_w M_R_lays d u0 Q u S n 69 L (.int 0 :: st) h := tm_r_iconst (k := 0) (by decide +kernel) rfl (by decide)
theorem ws_R_lays_69 : tm_s M_R_lays d u0 Q u S n 69 L st h = tm_p1 st (fun x r => r = [] ∧ (x = 0 ∨ x = 1) ∧ Q (.inl (some (.int x))) h) := tm_r_zret (by decide +kernel) rfl
theorem ws_R_lays_70 : tm_s M_R_lays d u0 Q u S n 70 L st h = tm_gI L 3 (fun x => tm_w M_R_lays d u0 Q u S n 73 (L.set 3 (some (.int (x + 1)))) st h) := tm_r_iinc (j := 3) (k := 1) (by decide +kernel) rfl (by decide) (by decide)
theorem ws_R_lays_73 : tm_s M_R_lays d u0 Q u S n 73 L st h = tm_w M_R_lays d u0 Q u S n 36 L st h := tm_r_goto (off := (-37)) (by decide +kernel) rfl
theorem ws_R_lays_76 : tm_s M_R_lays d u0 Q u S n 76 L st h = tm_gI L 2 (fun x => tm_w M_R_lays d u0 Q u S n 79 (L.set 2 (some (.int (x + 1)))) st h) := tm_r_iinc (j := 2) (k := 1) (by decide +kernel) rfl (by decide) (by decide)
theorem ws_R_lays_79 : tm_s M_R_lays d u0 Q u S n 79 L st h = tm_w M_R_lays d u0 Q u S n 2 L st h := tm_r_goto (off := (-77)) (by decide +kernel) rfl
theorem ws_R_lays_82 : tm_s M_R_lays d u0 Q u S n 82 L st h = tm_w M_R_lays d u0 Q u S n 83 L (.int 1 :: st) h := tm_r_iconst (k := 1) (by decide +kernel) rfl (by decide)
theorem ws_R_lays_83 : tm_s M_R_lays d u0 Q u S n 83 L st h = tm_p1 st (fun x r => r = [] ∧ (x = 0 ∨ x = 1) ∧ Q (.inl (some (.int x))) h) := tm_r_zret (by decide +kernel) rfl
theorem ws_R_keeps_0 : tm_s M_R_keeps d u0 Q u S n 0 L st h = tm_w M_R_keeps d u0 Q u S n 1 L (.int 1 :: st) h := tm_r_iconst (k := 1) (by decide +kernel) rfl (by decide)
theorem ws_R_keeps_1 : tm_s M_R_keeps d u0 Q u S n 1 L st h = tm_p1 st (fun x r => tm_w M_R_keeps d u0 Q u S n 2 (L.set 2 (some (.int x))) r h) := tm_r_istore_n (i := 2) (by decide +kernel) rfl rfl (by decide)
theorem ws_R_keeps_2 : tm_s M_R_keeps d u0 Q u S n 2 L st h = tm_w M_R_keeps d u0 Q u S n 3 L (.int 0 :: st) h := tm_r_iconst (k := 0) (by decide +kernel) rfl (by decide)
theorem ws_R_keeps_3 : tm_s M_R_keeps d u0 Q u S n 3 L st h = tm_p1 st (fun x r => tm_w M_R_keeps d u0 Q u S n 4 (L.set 3 (some (.int x))) r h) := tm_r_istore_n (i := 3) (by decide +kernel) rfl rfl (by decide)
theorem ws_R_keeps_4 : tm_s M_R_keeps d u0 Q u S n 4 L st h = tm_gI L 3 (fun x => tm_w M_R_keeps d u0 Q u S n 5 L (.int x :: st) h) := tm_r_iload_n (i := 3) (by decide +kernel) rfl rfl
theorem ws_R_keeps_5 : tm_s M_R_keeps d u0 Q u S n 5 L st h = tm_w M_R_keeps d u0 Q u S n 7 L (.int 7 :: st) h := tm_r_bipush (k := 7) (by decide +kernel) rfl (by decide)
theorem ws_R_keeps_7 : tm_s M_R_keeps d u0 Q u S n 7 L st h = tm_p1 st (fun y r => tm_p1 r (fun x r => (y ≤ x → tm_w M_R_keeps d u0 Q u S n 44 L r h) ∧ (¬ y ≤ x → tm_w M_R_keeps d u0 Q u S n 10 L r h))) := tm_r_icge (off := 37) (by decide +kernel) rfl rfl
theorem ws_R_keeps_10 : tm_s M_R_keeps d u0 Q u S n 10 L st h = tm_gI L 2 (fun x => tm_w M_R_keeps d u0 Q u S n 11 L (.int x :: st) h) := tm_r_iload_n (i := 2) (by decide +kernel) rfl rfl
theorem ws_R_keeps_11 : tm_s M_R_keeps d u0 Q u S n 11 L st h = tm_p1 st (fun x r => (x = 0 → tm_w M_R_keeps d u0 Q u S n 36 L r h) ∧ (¬ x = 0 → tm_w M_R_keeps d u0 Q u S n 14 L r h)) := tm_r_ifeq (off := 25) (by decide +kernel) rfl rfl
theorem ws_R_keeps_14 : tm_s M_R_keeps d u0 Q u S n 14 L st h = tm_gI L 1 (fun x => tm_w M_R_keeps d u0 Q u S n 15 L (.int x :: st) h) := tm_r_iload_n (i := 1) (by decide +kernel) rfl rfl
theorem ws_R_keeps_15 : tm_s M_R_keeps d u0 Q u S n 15 L st h = tm_gI L 3 (fun x => tm_w M_R_keeps d u0 Q u S n 16 L (.int x :: st) h) := tm_r_iload_n (i := 3) (by decide +kernel) rfl rfl
theorem ws_R_keeps_16 : tm_s M_R_keeps d u0 Q u S n 16 L st h = tm_p1 st (fun y r => tm_p1 r (fun x r => tm_w M_R_keeps d u0 Q u S n 17 L (.int (x >>> (y &&& 31)) :: r) h)) := tm_r_ishr (by decide +kernel) rfl
theorem ws_R_keeps_17 : tm_s M_R_keeps d u0 Q u S n 17 L st h = tm_w M_R_keeps d u0 Q u S n 18 L (.int 1 :: st) h := tm_r_iconst (k := 1) (by decide +kernel) rfl (by decide)
theorem ws_R_keeps_18 : tm_s M_R_keeps d u0 Q u S n 18 L st h = tm_p1 st (fun y r => tm_p1 r (fun x r => tm_w M_R_keeps d u0 Q u S n 19 L (.int (x &&& y) :: r) h)) := tm_r_iand (by decide +kernel) rfl
theorem ws_R_keeps_19 : tm_s M_R_keeps d u0 Q u S n 19 L st h = tm_p1 st (fun x r => (x = 0 → tm_w M_R_keeps d u0 Q u S n 32 L r h) ∧ (¬ x = 0 → tm_w M_R_keeps d u0 Q u S n 22 L r h)) := tm_r_ifeq (off := 13) (by decide +kernel) rfl rfl
theorem ws_R_keeps_22 : tm_s M_R_keeps d u0 Q u S n 22 L st h = tm_gA L 0 (fun x => tm_w M_R_keeps d u0 Q u S n 23 L (.ref x :: st) h) := tm_r_aload_n (i := 0) (by decide +kernel) rfl rfl
theorem ws_R_keeps_23 : tm_s M_R_keeps d u0 Q u S n 23 L st h = tm_pA st (fun a r => tm_cO (h a) 5 (fun fs => tm_fv fs 4 (fun v => tm_w M_R_keeps d u0 Q u S n 26 L (v :: r) h))) := tm_r_getf (i := 20) (by decide +kernel) rfl (by decide +kernel)
theorem ws_R_keeps_26 : tm_s M_R_keeps d u0 Q u S n 26 L st h = tm_gI L 3 (fun x => tm_w M_R_keeps d u0 Q u S n 27 L (.int x :: st) h) := tm_r_iload_n (i := 3) (by decide +kernel) rfl rfl
theorem ws_R_keeps_27 : tm_s M_R_keeps d u0 Q u S n 27 L st h = tm_p1 st (fun i r => tm_pA r (fun a r => tm_cI (h a) (fun k f => vp_in i k ∧ tm_w M_R_keeps d u0 Q u S n 28 L (.int (f i.toNatClampNeg) :: r) h))) := tm_r_iaload (by decide +kernel) rfl
theorem ws_R_keeps_28 : tm_s M_R_keeps d u0 Q u S n 28 L st h = tm_gI L 3 (fun x => tm_w M_R_keeps d u0 Q u S n 29 L (.int x :: st) h) := tm_r_iload_n (i := 3) (by decide +kernel) rfl rfl
theorem ws_R_keeps_29 : tm_s M_R_keeps d u0 Q u S n 29 L st h = tm_p1 st (fun y r => tm_p1 r (fun x r => (¬ x = y → tm_w M_R_keeps d u0 Q u S n 36 L r h) ∧ (¬ ¬ x = y → tm_w M_R_keeps d u0 Q u S n 32 L r h))) := tm_r_icne (off := 7) (by decide +kernel) rfl rfl
theorem ws_R_keeps_32 : tm_s M_R_keeps d u0 Q u S n 32 L st h = tm_w M_R_keeps d u0 Q u S n 33 L (.int 1 :: st) h := tm_r_iconst (k := 1) (by decide +kernel) rfl (by decide)
theorem ws_R_keeps_33 : tm_s M_R_keeps d u0 Q u S n 33 L st h = tm_w M_R_keeps d u0 Q u S n 37 L st h := tm_r_goto (off := 4) (by decide +kernel) rfl
theorem ws_R_keeps_36 : tm_s M_R_keeps d u0 Q u S n 36 L st h = tm_w M_R_keeps d u0 Q u S n 37 L (.int 0 :: st) h := tm_r_iconst (k := 0) (by decide +kernel) rfl (by decide)
theorem ws_R_keeps_37 : tm_s M_R_keeps d u0 Q u S n 37 L st h = tm_p1 st (fun x r => tm_w M_R_keeps d u0 Q u S n 38 (L.set 2 (some (.int x))) r h) := tm_r_istore_n (i := 2) (by decide +kernel) rfl rfl (by decide)
theorem ws_R_keeps_38 : tm_s M_R_keeps d u0 Q u S n 38 L st h = tm_gI L 3 (fun x => tm_w M_R_keeps d u0 Q u S n 41 (L.set 3 (some (.int (x + 1)))) st h) := tm_r_iinc (j := 3) (k := 1) (by decide +kernel) rfl (by decide) (by decide)
theorem ws_R_keeps_41 : tm_s M_R_keeps d u0 Q u S n 41 L st h = tm_w M_R_keeps d u0 Q u S n 4 L st h := tm_r_goto (off := (-37)) (by decide +kernel) rfl
theorem ws_R_keeps_44 : tm_s M_R_keeps d u0 Q u S n 44 L st h = tm_gI L 2 (fun x => tm_w M_R_keeps d u0 Q u S n 45 L (.int x :: st) h) := tm_r_iload_n (i := 2) (by decide +kernel) rfl rfl
theorem ws_R_keeps_45 : tm_s M_R_keeps d u0 Q u S n 45 L st h = tm_p1 st (fun x r => r = [] ∧ (x = 0 ∨ x = 1) ∧ Q (.inl (some (.int x))) h) := tm_r_zret (by decide +kernel) rfl
theorem ws_R_count_0 : tm_s M_R_count d u0 Q u S n 0 L st h = tm_gA L 0 (fun x => tm_w M_R_count d u0 Q u S n 1 L (.ref x :: st) h) := tm_r_aload_n (i := 0) (by decide +kernel) rfl rfl
theorem dd_R_count_1 : decode (tm_cc M_R_count) 1 = .ok (.invokevirtual 80, 3) := by decide +kernel
theorem ws_R_count_1 : tm_s M_R_count d u0 Q u S n 1 L st h = tm_T M_R_count d u0 Q u 1 L st h := tm_r_invv dd_R_count_1
theorem ws_R_count_4 : tm_s M_R_count d u0 Q u S n 4 L st h = tm_w M_R_count d u0 Q u S n 5 L (.int 0 :: st) h := tm_r_iconst (k := 0) (by decide +kernel) rfl (by decide)
theorem ws_R_count_5 : tm_s M_R_count d u0 Q u S n 5 L st h = tm_p1 st (fun x r => tm_w M_R_count d u0 Q u S n 7 (L.set 5 (some (.int x))) r h) := tm_r_istore (j := 5) (by decide +kernel) rfl (by decide)
theorem ws_R_count_7 : tm_s M_R_count d u0 Q u S n 7 L st h = tm_w M_R_count d u0 Q u S n 8 L (.int 1 :: st) h := tm_r_iconst (k := 1) (by decide +kernel) rfl (by decide)
theorem ws_R_count_8 : tm_s M_R_count d u0 Q u S n 8 L st h = tm_p1 st (fun x r => tm_w M_R_count d u0 Q u S n 10 (L.set 6 (some (.int x))) r h) := tm_r_istore (j := 6) (by decide +kernel) rfl (by decide)
theorem ws_R_count_10 : tm_s M_R_count d u0 Q u S n 10 L st h = tm_gI L 6 (fun x => tm_w M_R_count d u0 Q u S n 12 L (.int x :: st) h) := tm_r_iload (j := 6) (by decide +kernel) rfl
theorem ws_R_count_12 : tm_s M_R_count d u0 Q u S n 12 L st h = tm_p1 st (fun x r => (x = 0 → tm_w M_R_count d u0 Q u S n 84 L r h) ∧ (¬ x = 0 → tm_w M_R_count d u0 Q u S n 15 L r h)) := tm_r_ifeq (off := 72) (by decide +kernel) rfl rfl
theorem ws_R_count_15 : tm_s M_R_count d u0 Q u S n 15 L st h = tm_gI L 3 (fun x => tm_w M_R_count d u0 Q u S n 16 L (.int x :: st) h) := tm_r_iload_n (i := 3) (by decide +kernel) rfl rfl
theorem ws_R_count_16 : tm_s M_R_count d u0 Q u S n 16 L st h = tm_p1 st (fun x r => (x < 0 → tm_w M_R_count d u0 Q u S n 30 L r h) ∧ (¬ x < 0 → tm_w M_R_count d u0 Q u S n 19 L r h)) := tm_r_iflt (off := 14) (by decide +kernel) rfl rfl
theorem ws_R_count_19 : tm_s M_R_count d u0 Q u S n 19 L st h = tm_gA L 0 (fun x => tm_w M_R_count d u0 Q u S n 20 L (.ref x :: st) h) := tm_r_aload_n (i := 0) (by decide +kernel) rfl rfl
theorem ws_R_count_20 : tm_s M_R_count d u0 Q u S n 20 L st h = tm_pA st (fun a r => tm_cO (h a) 5 (fun fs => tm_fv fs 4 (fun v => tm_w M_R_count d u0 Q u S n 23 L (v :: r) h))) := tm_r_getf (i := 20) (by decide +kernel) rfl (by decide +kernel)
theorem ws_R_count_23 : tm_s M_R_count d u0 Q u S n 23 L st h = tm_gI L 3 (fun x => tm_w M_R_count d u0 Q u S n 24 L (.int x :: st) h) := tm_r_iload_n (i := 3) (by decide +kernel) rfl rfl
theorem ws_R_count_24 : tm_s M_R_count d u0 Q u S n 24 L st h = tm_p1 st (fun i r => tm_pA r (fun a r => tm_cI (h a) (fun k f => vp_in i k ∧ tm_w M_R_count d u0 Q u S n 25 L (.int (f i.toNatClampNeg) :: r) h))) := tm_r_iaload (by decide +kernel) rfl
theorem ws_R_count_25 : tm_s M_R_count d u0 Q u S n 25 L st h = tm_gI L 4 (fun x => tm_w M_R_count d u0 Q u S n 27 L (.int x :: st) h) := tm_r_iload (j := 4) (by decide +kernel) rfl
theorem ws_R_count_27 : tm_s M_R_count d u0 Q u S n 27 L st h = tm_p1 st (fun y r => tm_p1 r (fun x r => (¬ x = y → tm_w M_R_count d u0 Q u S n 42 L r h) ∧ (¬ ¬ x = y → tm_w M_R_count d u0 Q u S n 30 L r h))) := tm_r_icne (off := 15) (by decide +kernel) rfl rfl
theorem ws_R_count_30 : tm_s M_R_count d u0 Q u S n 30 L st h = tm_gA L 0 (fun x => tm_w M_R_count d u0 Q u S n 31 L (.ref x :: st) h) := tm_r_aload_n (i := 0) (by decide +kernel) rfl rfl
theorem ws_R_count_31 : tm_s M_R_count d u0 Q u S n 31 L st h = tm_gI L 2 (fun x => tm_w M_R_count d u0 Q u S n 32 L (.int x :: st) h) := tm_r_iload_n (i := 2) (by decide +kernel) rfl rfl
theorem dd_R_count_32 : decode (tm_cc M_R_count) 32 = .ok (.invokevirtual 95, 3) := by decide +kernel
theorem ws_R_count_32 : tm_s M_R_count d u0 Q u S n 32 L st h = tm_T M_R_count d u0 Q u 32 L st h := tm_r_invv dd_R_count_32
theorem ws_R_count_35 : tm_s M_R_count d u0 Q u S n 35 L st h = tm_p1 st (fun x r => (x = 0 → tm_w M_R_count d u0 Q u S n 42 L r h) ∧ (¬ x = 0 → tm_w M_R_count d u0 Q u S n 38 L r h)) := tm_r_ifeq (off := 7) (by decide +kernel) rfl rfl
theorem ws_R_count_38 : tm_s M_R_count d u0 Q u S n 38 L st h = tm_w M_R_count d u0 Q u S n 39 L (.int 1 :: st) h := tm_r_iconst (k := 1) (by decide +kernel) rfl (by decide)
theorem ws_R_count_39 : tm_s M_R_count d u0 Q u S n 39 L st h = tm_w M_R_count d u0 Q u S n 43 L st h := tm_r_goto (off := 4) (by decide +kernel) rfl
theorem ws_R_count_42 : tm_s M_R_count d u0 Q u S n 42 L st h = tm_w M_R_count d u0 Q u S n 43 L (.int 0 :: st) h := tm_r_iconst (k := 0) (by decide +kernel) rfl (by decide)
theorem ws_R_count_43 : tm_s M_R_count d u0 Q u S n 43 L st h = tm_p1 st (fun x r => tm_w M_R_count d u0 Q u S n 45 (L.set 7 (some (.int x))) r h) := tm_r_istore (j := 7) (by decide +kernel) rfl (by decide)
theorem ws_R_count_45 : tm_s M_R_count d u0 Q u S n 45 L st h = tm_gI L 7 (fun x => tm_w M_R_count d u0 Q u S n 47 L (.int x :: st) h) := tm_r_iload (j := 7) (by decide +kernel) rfl
theorem ws_R_count_47 : tm_s M_R_count d u0 Q u S n 47 L st h = tm_p1 st (fun x r => (x = 0 → tm_w M_R_count d u0 Q u S n 65 L r h) ∧ (¬ x = 0 → tm_w M_R_count d u0 Q u S n 50 L r h)) := tm_r_ifeq (off := 18) (by decide +kernel) rfl rfl
theorem ws_R_count_50 : tm_s M_R_count d u0 Q u S n 50 L st h = tm_gA L 0 (fun x => tm_w M_R_count d u0 Q u S n 51 L (.ref x :: st) h) := tm_r_aload_n (i := 0) (by decide +kernel) rfl rfl
theorem ws_R_count_51 : tm_s M_R_count d u0 Q u S n 51 L st h = tm_gI L 1 (fun x => tm_w M_R_count d u0 Q u S n 52 L (.int x :: st) h) := tm_r_iload_n (i := 1) (by decide +kernel) rfl rfl
theorem dd_R_count_52 : decode (tm_cc M_R_count) 52 = .ok (.invokevirtual 98, 3) := by decide +kernel
theorem ws_R_count_52 : tm_s M_R_count d u0 Q u S n 52 L st h = tm_T M_R_count d u0 Q u 52 L st h := tm_r_invv dd_R_count_52
theorem ws_R_count_55 : tm_s M_R_count d u0 Q u S n 55 L st h = tm_p1 st (fun x r => (x = 0 → tm_w M_R_count d u0 Q u S n 65 L r h) ∧ (¬ x = 0 → tm_w M_R_count d u0 Q u S n 58 L r h)) := tm_r_ifeq (off := 10) (by decide +kernel) rfl rfl
theorem ws_R_count_58 : tm_s M_R_count d u0 Q u S n 58 L st h = tm_gI L 5 (fun x => tm_w M_R_count d u0 Q u S n 60 L (.int x :: st) h) := tm_r_iload (j := 5) (by decide +kernel) rfl
theorem ws_R_count_60 : tm_s M_R_count d u0 Q u S n 60 L st h = tm_w M_R_count d u0 Q u S n 61 L (.int 1 :: st) h := tm_r_iconst (k := 1) (by decide +kernel) rfl (by decide)
theorem ws_R_count_61 : tm_s M_R_count d u0 Q u S n 61 L st h = tm_p1 st (fun y r => tm_p1 r (fun x r => tm_w M_R_count d u0 Q u S n 62 L (.int (x + y) :: r) h)) := tm_r_iadd (by decide +kernel) rfl
theorem ws_R_count_62 : tm_s M_R_count d u0 Q u S n 62 L st h = tm_w M_R_count d u0 Q u S n 67 L st h := tm_r_goto (off := 5) (by decide +kernel) rfl
theorem ws_R_count_65 : tm_s M_R_count d u0 Q u S n 65 L st h = tm_gI L 5 (fun x => tm_w M_R_count d u0 Q u S n 67 L (.int x :: st) h) := tm_r_iload (j := 5) (by decide +kernel) rfl
theorem ws_R_count_67 : tm_s M_R_count d u0 Q u S n 67 L st h = tm_p1 st (fun x r => tm_w M_R_count d u0 Q u S n 69 (L.set 5 (some (.int x))) r h) := tm_r_istore (j := 5) (by decide +kernel) rfl (by decide)
theorem ws_R_count_69 : tm_s M_R_count d u0 Q u S n 69 L st h = tm_gA L 0 (fun x => tm_w M_R_count d u0 Q u S n 70 L (.ref x :: st) h) := tm_r_aload_n (i := 0) (by decide +kernel) rfl rfl
theorem ws_R_count_70 : tm_s M_R_count d u0 Q u S n 70 L st h = tm_gA L 0 (fun x => tm_w M_R_count d u0 Q u S n 71 L (.ref x :: st) h) := tm_r_aload_n (i := 0) (by decide +kernel) rfl rfl
theorem ws_R_count_71 : tm_s M_R_count d u0 Q u S n 71 L st h = tm_pA st (fun a r => tm_cO (h a) 5 (fun fs => tm_fv fs 1 (fun v => tm_w M_R_count d u0 Q u S n 74 L (v :: r) h))) := tm_r_getf (i := 7) (by decide +kernel) rfl (by decide +kernel)
theorem ws_R_count_74 : tm_s M_R_count d u0 Q u S n 74 L st h = tm_gI L 1 (fun x => tm_w M_R_count d u0 Q u S n 75 L (.int x :: st) h) := tm_r_iload_n (i := 1) (by decide +kernel) rfl rfl
theorem ws_R_count_75 : tm_s M_R_count d u0 Q u S n 75 L st h = tm_p1 st (fun i r => tm_pA r (fun a r => tm_cI (h a) (fun k f => vp_in i k ∧ tm_w M_R_count d u0 Q u S n 76 L (.int (f i.toNatClampNeg) :: r) h))) := tm_r_iaload (by decide +kernel) rfl
theorem dd_R_count_76 : decode (tm_cc M_R_count) 76 = .ok (.invokevirtual 92, 3) := by decide +kernel
theorem ws_R_count_76 : tm_s M_R_count d u0 Q u S n 76 L st h = tm_T M_R_count d u0 Q u 76 L st h := tm_r_invv dd_R_count_76
theorem ws_R_count_79 : tm_s M_R_count d u0 Q u S n 79 L st h = tm_p1 st (fun x r => tm_w M_R_count d u0 Q u S n 81 (L.set 6 (some (.int x))) r h) := tm_r_istore (j := 6) (by decide +kernel) rfl (by decide)
theorem ws_R_count_81 : tm_s M_R_count d u0 Q u S n 81 L st h = tm_w M_R_count d u0 Q u S n 10 L st h := tm_r_goto (off := (-71)) (by decide +kernel) rfl
theorem ws_R_count_84 : tm_s M_R_count d u0 Q u S n 84 L st h = tm_gI L 5 (fun x => tm_w M_R_count d u0 Q u S n 86 L (.int x :: st) h) := tm_r_iload (j := 5) (by decide +kernel) rfl
theorem ws_R_count_86 : tm_s M_R_count d u0 Q u S n 86 L st h = tm_p1 st (fun x r => r = [] ∧ Q (.inl (some (.int x))) h) := tm_r_iret (by decide +kernel) rfl
theorem ws_R_orbitOf_0 : tm_s M_R_orbitOf d u0 Q u S n 0 L st h = tm_gA L 0 (fun x => tm_w M_R_orbitOf d u0 Q u S n 1 L (.ref x :: st) h) := tm_r_aload_n (i := 0) (by decide +kernel) rfl rfl
theorem dd_R_orbitOf_1 : decode (tm_cc M_R_orbitOf) 1 = .ok (.invokevirtual 80, 3) := by decide +kernel
theorem ws_R_orbitOf_1 : tm_s M_R_orbitOf d u0 Q u S n 1 L st h = tm_T M_R_orbitOf d u0 Q u 1 L st h := tm_r_invv dd_R_orbitOf_1
theorem ws_R_orbitOf_4 : tm_s M_R_orbitOf d u0 Q u S n 4 L st h = tm_w M_R_orbitOf d u0 Q u S n 5 L (.int 0 :: st) h := tm_r_iconst (k := 0) (by decide +kernel) rfl (by decide)
theorem ws_R_orbitOf_5 : tm_s M_R_orbitOf d u0 Q u S n 5 L st h = tm_p1 st (fun x r => tm_w M_R_orbitOf d u0 Q u S n 6 (L.set 3 (some (.int x))) r h) := tm_r_istore_n (i := 3) (by decide +kernel) rfl rfl (by decide)
theorem ws_R_orbitOf_6 : tm_s M_R_orbitOf d u0 Q u S n 6 L st h = tm_w M_R_orbitOf d u0 Q u S n 7 L (.int 1 :: st) h := tm_r_iconst (k := 1) (by decide +kernel) rfl (by decide)
theorem ws_R_orbitOf_7 : tm_s M_R_orbitOf d u0 Q u S n 7 L st h = tm_p1 st (fun x r => tm_w M_R_orbitOf d u0 Q u S n 9 (L.set 4 (some (.int x))) r h) := tm_r_istore (j := 4) (by decide +kernel) rfl (by decide)
theorem ws_R_orbitOf_9 : tm_s M_R_orbitOf d u0 Q u S n 9 L st h = tm_gI L 4 (fun x => tm_w M_R_orbitOf d u0 Q u S n 11 L (.int x :: st) h) := tm_r_iload (j := 4) (by decide +kernel) rfl
theorem ws_R_orbitOf_11 : tm_s M_R_orbitOf d u0 Q u S n 11 L st h = tm_p1 st (fun x r => (x = 0 → tm_w M_R_orbitOf d u0 Q u S n 65 L r h) ∧ (¬ x = 0 → tm_w M_R_orbitOf d u0 Q u S n 14 L r h)) := tm_r_ifeq (off := 54) (by decide +kernel) rfl rfl
theorem ws_R_orbitOf_14 : tm_s M_R_orbitOf d u0 Q u S n 14 L st h = tm_gI L 3 (fun x => tm_w M_R_orbitOf d u0 Q u S n 15 L (.int x :: st) h) := tm_r_iload_n (i := 3) (by decide +kernel) rfl rfl
theorem ws_R_orbitOf_15 : tm_s M_R_orbitOf d u0 Q u S n 15 L st h = tm_gA L 0 (fun x => tm_w M_R_orbitOf d u0 Q u S n 16 L (.ref x :: st) h) := tm_r_aload_n (i := 0) (by decide +kernel) rfl rfl
theorem ws_R_orbitOf_16 : tm_s M_R_orbitOf d u0 Q u S n 16 L st h = tm_pA st (fun a r => tm_cO (h a) 5 (fun fs => tm_fv fs 4 (fun v => tm_w M_R_orbitOf d u0 Q u S n 19 L (v :: r) h))) := tm_r_getf (i := 20) (by decide +kernel) rfl (by decide +kernel)
theorem ws_R_orbitOf_19 : tm_s M_R_orbitOf d u0 Q u S n 19 L st h = tm_gI L 2 (fun x => tm_w M_R_orbitOf d u0 Q u S n 20 L (.int x :: st) h) := tm_r_iload_n (i := 2) (by decide +kernel) rfl rfl
theorem ws_R_orbitOf_20 : tm_s M_R_orbitOf d u0 Q u S n 20 L st h = tm_p1 st (fun i r => tm_pA r (fun a r => tm_cI (h a) (fun k f => vp_in i k ∧ tm_w M_R_orbitOf d u0 Q u S n 21 L (.int (f i.toNatClampNeg) :: r) h))) := tm_r_iaload (by decide +kernel) rfl
theorem ws_R_orbitOf_21 : tm_s M_R_orbitOf d u0 Q u S n 21 L st h = tm_p1 st (fun y r => tm_p1 r (fun x r => tm_w M_R_orbitOf d u0 Q u S n 22 L (.int (x >>> (y &&& 31)) :: r) h)) := tm_r_ishr (by decide +kernel) rfl
theorem ws_R_orbitOf_22 : tm_s M_R_orbitOf d u0 Q u S n 22 L st h = tm_w M_R_orbitOf d u0 Q u S n 23 L (.int 1 :: st) h := tm_r_iconst (k := 1) (by decide +kernel) rfl (by decide)
theorem ws_R_orbitOf_23 : tm_s M_R_orbitOf d u0 Q u S n 23 L st h = tm_p1 st (fun y r => tm_p1 r (fun x r => tm_w M_R_orbitOf d u0 Q u S n 24 L (.int (x &&& y) :: r) h)) := tm_r_iand (by decide +kernel) rfl
theorem ws_R_orbitOf_24 : tm_s M_R_orbitOf d u0 Q u S n 24 L st h = tm_p1 st (fun x r => (¬ x = 0 → tm_w M_R_orbitOf d u0 Q u S n 48 L r h) ∧ (¬ ¬ x = 0 → tm_w M_R_orbitOf d u0 Q u S n 27 L r h)) := tm_r_ifne (off := 24) (by decide +kernel) rfl rfl
theorem ws_R_orbitOf_27 : tm_s M_R_orbitOf d u0 Q u S n 27 L st h = tm_gA L 0 (fun x => tm_w M_R_orbitOf d u0 Q u S n 28 L (.ref x :: st) h) := tm_r_aload_n (i := 0) (by decide +kernel) rfl rfl
theorem ws_R_orbitOf_28 : tm_s M_R_orbitOf d u0 Q u S n 28 L st h = tm_gI L 1 (fun x => tm_w M_R_orbitOf d u0 Q u S n 29 L (.int x :: st) h) := tm_r_iload_n (i := 1) (by decide +kernel) rfl rfl
theorem dd_R_orbitOf_29 : decode (tm_cc M_R_orbitOf) 29 = .ok (.invokevirtual 98, 3) := by decide +kernel
theorem ws_R_orbitOf_29 : tm_s M_R_orbitOf d u0 Q u S n 29 L st h = tm_T M_R_orbitOf d u0 Q u 29 L st h := tm_r_invv dd_R_orbitOf_29
theorem ws_R_orbitOf_32 : tm_s M_R_orbitOf d u0 Q u S n 32 L st h = tm_p1 st (fun x r => (x = 0 → tm_w M_R_orbitOf d u0 Q u S n 48 L r h) ∧ (¬ x = 0 → tm_w M_R_orbitOf d u0 Q u S n 35 L r h)) := tm_r_ifeq (off := 16) (by decide +kernel) rfl rfl
theorem ws_R_orbitOf_35 : tm_s M_R_orbitOf d u0 Q u S n 35 L st h = tm_gI L 3 (fun x => tm_w M_R_orbitOf d u0 Q u S n 36 L (.int x :: st) h) := tm_r_iload_n (i := 3) (by decide +kernel) rfl rfl
theorem ws_R_orbitOf_36 : tm_s M_R_orbitOf d u0 Q u S n 36 L st h = tm_w M_R_orbitOf d u0 Q u S n 37 L (.int 1 :: st) h := tm_r_iconst (k := 1) (by decide +kernel) rfl (by decide)
theorem ws_R_orbitOf_37 : tm_s M_R_orbitOf d u0 Q u S n 37 L st h = tm_gA L 0 (fun x => tm_w M_R_orbitOf d u0 Q u S n 38 L (.ref x :: st) h) := tm_r_aload_n (i := 0) (by decide +kernel) rfl rfl
theorem ws_R_orbitOf_38 : tm_s M_R_orbitOf d u0 Q u S n 38 L st h = tm_pA st (fun a r => tm_cO (h a) 5 (fun fs => tm_fv fs 4 (fun v => tm_w M_R_orbitOf d u0 Q u S n 41 L (v :: r) h))) := tm_r_getf (i := 20) (by decide +kernel) rfl (by decide +kernel)
theorem ws_R_orbitOf_41 : tm_s M_R_orbitOf d u0 Q u S n 41 L st h = tm_gI L 2 (fun x => tm_w M_R_orbitOf d u0 Q u S n 42 L (.int x :: st) h) := tm_r_iload_n (i := 2) (by decide +kernel) rfl rfl
theorem ws_R_orbitOf_42 : tm_s M_R_orbitOf d u0 Q u S n 42 L st h = tm_p1 st (fun i r => tm_pA r (fun a r => tm_cI (h a) (fun k f => vp_in i k ∧ tm_w M_R_orbitOf d u0 Q u S n 43 L (.int (f i.toNatClampNeg) :: r) h))) := tm_r_iaload (by decide +kernel) rfl
theorem ws_R_orbitOf_43 : tm_s M_R_orbitOf d u0 Q u S n 43 L st h = tm_p1 st (fun y r => tm_p1 r (fun x r => tm_w M_R_orbitOf d u0 Q u S n 44 L (.int (x <<< (y &&& 31)) :: r) h)) := tm_r_ishl (by decide +kernel) rfl
theorem ws_R_orbitOf_44 : tm_s M_R_orbitOf d u0 Q u S n 44 L st h = tm_p1 st (fun y r => tm_p1 r (fun x r => tm_w M_R_orbitOf d u0 Q u S n 45 L (.int (x ||| y) :: r) h)) := tm_r_ior (by decide +kernel) rfl
theorem ws_R_orbitOf_45 : tm_s M_R_orbitOf d u0 Q u S n 45 L st h = tm_w M_R_orbitOf d u0 Q u S n 49 L st h := tm_r_goto (off := 4) (by decide +kernel) rfl
theorem ws_R_orbitOf_48 : tm_s M_R_orbitOf d u0 Q u S n 48 L st h = tm_gI L 3 (fun x => tm_w M_R_orbitOf d u0 Q u S n 49 L (.int x :: st) h) := tm_r_iload_n (i := 3) (by decide +kernel) rfl rfl
theorem ws_R_orbitOf_49 : tm_s M_R_orbitOf d u0 Q u S n 49 L st h = tm_p1 st (fun x r => tm_w M_R_orbitOf d u0 Q u S n 50 (L.set 3 (some (.int x))) r h) := tm_r_istore_n (i := 3) (by decide +kernel) rfl rfl (by decide)
theorem ws_R_orbitOf_50 : tm_s M_R_orbitOf d u0 Q u S n 50 L st h = tm_gA L 0 (fun x => tm_w M_R_orbitOf d u0 Q u S n 51 L (.ref x :: st) h) := tm_r_aload_n (i := 0) (by decide +kernel) rfl rfl
theorem ws_R_orbitOf_51 : tm_s M_R_orbitOf d u0 Q u S n 51 L st h = tm_gA L 0 (fun x => tm_w M_R_orbitOf d u0 Q u S n 52 L (.ref x :: st) h) := tm_r_aload_n (i := 0) (by decide +kernel) rfl rfl
theorem ws_R_orbitOf_52 : tm_s M_R_orbitOf d u0 Q u S n 52 L st h = tm_pA st (fun a r => tm_cO (h a) 5 (fun fs => tm_fv fs 1 (fun v => tm_w M_R_orbitOf d u0 Q u S n 55 L (v :: r) h))) := tm_r_getf (i := 7) (by decide +kernel) rfl (by decide +kernel)
theorem ws_R_orbitOf_55 : tm_s M_R_orbitOf d u0 Q u S n 55 L st h = tm_gI L 1 (fun x => tm_w M_R_orbitOf d u0 Q u S n 56 L (.int x :: st) h) := tm_r_iload_n (i := 1) (by decide +kernel) rfl rfl
theorem ws_R_orbitOf_56 : tm_s M_R_orbitOf d u0 Q u S n 56 L st h = tm_p1 st (fun i r => tm_pA r (fun a r => tm_cI (h a) (fun k f => vp_in i k ∧ tm_w M_R_orbitOf d u0 Q u S n 57 L (.int (f i.toNatClampNeg) :: r) h))) := tm_r_iaload (by decide +kernel) rfl
theorem dd_R_orbitOf_57 : decode (tm_cc M_R_orbitOf) 57 = .ok (.invokevirtual 92, 3) := by decide +kernel
theorem ws_R_orbitOf_57 : tm_s M_R_orbitOf d u0 Q u S n 57 L st h = tm_T M_R_orbitOf d u0 Q u 57 L st h := tm_r_invv dd_R_orbitOf_57
theorem ws_R_orbitOf_60 : tm_s M_R_orbitOf d u0 Q u S n 60 L st h = tm_p1 st (fun x r => tm_w M_R_orbitOf d u0 Q u S n 62 (L.set 4 (some (.int x))) r h) := tm_r_istore (j := 4) (by decide +kernel) rfl (by decide)
theorem ws_R_orbitOf_62 : tm_s M_R_orbitOf d u0 Q u S n 62 L st h = tm_w M_R_orbitOf d u0 Q u S n 9 L st h := tm_r_goto (off := (-53)) (by decide +kernel) rfl
theorem ws_R_orbitOf_65 : tm_s M_R_orbitOf d u0 Q u S n 65 L st h = tm_gI L 3 (fun x => tm_w M_R_orbitOf d u0 Q u S n 66 L (.int x :: st) h) := tm_r_iload_n (i := 3) (by decide +kernel) rfl rfl
theorem ws_R_orbitOf_66 : tm_s M_R_orbitOf d u0 Q u S n 66 L st h = tm_p1 st (fun x r => r = [] ∧ Q (.inl (some (.int x))) h) := tm_r_iret (by decide +kernel) rfl
theorem ws_R_links_0 : tm_s M_R_links d u0 Q u S n 0 L st h = tm_w M_R_links d u0 Q u S n 1 L (.int 0 :: st) h := tm_r_iconst (k := 0) (by decide +kernel) rfl (by decide)
theorem ws_R_links_1 : tm_s M_R_links d u0 Q u S n 1 L st h = tm_p1 st (fun x r => tm_w M_R_links d u0 Q u S n 3 (L.set 4 (some (.int x))) r h) := tm_r_istore (j := 4) (by decide +kernel) rfl (by decide)
theorem ws_R_links_3 : tm_s M_R_links d u0 Q u S n 3 L st h = tm_w M_R_links d u0 Q u S n 4 L (.int 0 :: st) h := tm_r_iconst (k := 0) (by decide +kernel) rfl (by decide)
theorem ws_R_links_4 : tm_s M_R_links d u0 Q u S n 4 L st h = tm_p1 st (fun x r => tm_w M_R_links d u0 Q u S n 6 (L.set 5 (some (.int x))) r h) := tm_r_istore (j := 5) (by decide +kernel) rfl (by decide)
theorem ws_R_links_6 : tm_s M_R_links d u0 Q u S n 6 L st h = tm_gI L 5 (fun x => tm_w M_R_links d u0 Q u S n 8 L (.int x :: st) h) := tm_r_iload (j := 5) (by decide +kernel) rfl
theorem ws_R_links_8 : tm_s M_R_links d u0 Q u S n 8 L st h = tm_gA L 0 (fun x => tm_w M_R_links d u0 Q u S n 9 L (.ref x :: st) h) := tm_r_aload_n (i := 0) (by decide +kernel) rfl rfl
theorem ws_R_links_9 : tm_s M_R_links d u0 Q u S n 9 L st h = tm_pA st (fun a r => tm_cO (h a) 5 (fun fs => tm_fv fs 1 (fun v => tm_w M_R_links d u0 Q u S n 12 L (v :: r) h))) := tm_r_getf (i := 7) (by decide +kernel) rfl (by decide +kernel)
theorem ws_R_links_12 : tm_s M_R_links d u0 Q u S n 12 L st h = tm_gI L 1 (fun x => tm_w M_R_links d u0 Q u S n 13 L (.int x :: st) h) := tm_r_iload_n (i := 1) (by decide +kernel) rfl rfl
theorem ws_R_links_13 : tm_s M_R_links d u0 Q u S n 13 L st h = tm_p1 st (fun i r => tm_pA r (fun a r => tm_cI (h a) (fun k f => vp_in i k ∧ tm_w M_R_links d u0 Q u S n 14 L (.int (f i.toNatClampNeg) :: r) h))) := tm_r_iaload (by decide +kernel) rfl
theorem ws_R_links_14 : tm_s M_R_links d u0 Q u S n 14 L st h = tm_p1 st (fun y r => tm_p1 r (fun x r => (y ≤ x → tm_w M_R_links d u0 Q u S n 56 L r h) ∧ (¬ y ≤ x → tm_w M_R_links d u0 Q u S n 17 L r h))) := tm_r_icge (off := 42) (by decide +kernel) rfl rfl
theorem ws_R_links_17 : tm_s M_R_links d u0 Q u S n 17 L st h = tm_gA L 0 (fun x => tm_w M_R_links d u0 Q u S n 18 L (.ref x :: st) h) := tm_r_aload_n (i := 0) (by decide +kernel) rfl rfl
theorem ws_R_links_18 : tm_s M_R_links d u0 Q u S n 18 L st h = tm_pA st (fun a r => tm_cO (h a) 5 (fun fs => tm_fv fs 9 (fun v => tm_w M_R_links d u0 Q u S n 21 L (v :: r) h))) := tm_r_getf (i := 29) (by decide +kernel) rfl (by decide +kernel)
theorem ws_R_links_21 : tm_s M_R_links d u0 Q u S n 21 L st h = tm_gI L 5 (fun x => tm_w M_R_links d u0 Q u S n 23 L (.int x :: st) h) := tm_r_iload (j := 5) (by decide +kernel) rfl
theorem ws_R_links_23 : tm_s M_R_links d u0 Q u S n 23 L st h = tm_p1 st (fun i r => tm_pA r (fun a r => tm_cI (h a) (fun k f => vp_in i k ∧ tm_w M_R_links d u0 Q u S n 24 L (.int (f i.toNatClampNeg) :: r) h))) := tm_r_iaload (by decide +kernel) rfl
theorem ws_R_links_24 : tm_s M_R_links d u0 Q u S n 24 L st h = tm_gI L 3 (fun x => tm_w M_R_links d u0 Q u S n 25 L (.int x :: st) h) := tm_r_iload_n (i := 3) (by decide +kernel) rfl rfl
theorem ws_R_links_25 : tm_s M_R_links d u0 Q u S n 25 L st h = tm_p1 st (fun y r => tm_p1 r (fun x r => (¬ x = y → tm_w M_R_links d u0 Q u S n 46 L r h) ∧ (¬ ¬ x = y → tm_w M_R_links d u0 Q u S n 28 L r h))) := tm_r_icne (off := 21) (by decide +kernel) rfl rfl
theorem ws_R_links_28 : tm_s M_R_links d u0 Q u S n 28 L st h = tm_gA L 0 (fun x => tm_w M_R_links d u0 Q u S n 29 L (.ref x :: st) h) := tm_r_aload_n (i := 0) (by decide +kernel) rfl rfl
theorem ws_R_links_29 : tm_s M_R_links d u0 Q u S n 29 L st h = tm_gI L 1 (fun x => tm_w M_R_links d u0 Q u S n 30 L (.int x :: st) h) := tm_r_iload_n (i := 1) (by decide +kernel) rfl rfl
theorem ws_R_links_30 : tm_s M_R_links d u0 Q u S n 30 L st h = tm_gI L 2 (fun x => tm_w M_R_links d u0 Q u S n 31 L (.int x :: st) h) := tm_r_iload_n (i := 2) (by decide +kernel) rfl rfl
theorem ws_R_links_31 : tm_s M_R_links d u0 Q u S n 31 L st h = tm_gI L 5 (fun x => tm_w M_R_links d u0 Q u S n 33 L (.int x :: st) h) := tm_r_iload (j := 5) (by decide +kernel) rfl
theorem dd_R_links_33 : decode (tm_cc M_R_links) 33 = .ok (.invokevirtual 49, 3) := by decide +kernel
theorem ws_R_links_33 : tm_s M_R_links d u0 Q u S n 33 L st h = tm_T M_R_links d u0 Q u 33 L st h := tm_r_invv dd_R_links_33
theorem ws_R_links_36 : tm_s M_R_links d u0 Q u S n 36 L st h = tm_p1 st (fun x r => (x = 0 → tm_w M_R_links d u0 Q u S n 46 L r h) ∧ (¬ x = 0 → tm_w M_R_links d u0 Q u S n 39 L r h)) := tm_r_ifeq (off := 10) (by decide +kernel) rfl rfl
theorem ws_R_links_39 : tm_s M_R_links d u0 Q u S n 39 L st h = tm_gI L 4 (fun x => tm_w M_R_links d u0 Q u S n 41 L (.int x :: st) h) := tm_r_iload (j := 4) (by decide +kernel) rfl
theorem ws_R_links_41 : tm_s M_R_links d u0 Q u S n 41 L st h = tm_w M_R_links d u0 Q u S n 42 L (.int 1 :: st) h := tm_r_iconst (k := 1) (by decide +kernel) rfl (by decide)
theorem ws_R_links_42 : tm_s M_R_links d u0 Q u S n 42 L st h = tm_p1 st (fun y r => tm_p1 r (fun x r => tm_w M_R_links d u0 Q u S n 43 L (.int (x + y) :: r) h)) := tm_r_iadd (by decide +kernel) rfl
theorem ws_R_links_43 : tm_s M_R_links d u0 Q u S n 43 L st h = tm_w M_R_links d u0 Q u S n 48 L st h := tm_r_goto (off := 5) (by decide +kernel) rfl
theorem ws_R_links_46 : tm_s M_R_links d u0 Q u S n 46 L st h = tm_gI L 4 (fun x => tm_w M_R_links d u0 Q u S n 48 L (.int x :: st) h) := tm_r_iload (j := 4) (by decide +kernel) rfl
theorem ws_R_links_48 : tm_s M_R_links d u0 Q u S n 48 L st h = tm_p1 st (fun x r => tm_w M_R_links d u0 Q u S n 50 (L.set 4 (some (.int x))) r h) := tm_r_istore (j := 4) (by decide +kernel) rfl (by decide)
theorem ws_R_links_50 : tm_s M_R_links d u0 Q u S n 50 L st h = tm_gI L 5 (fun x => tm_w M_R_links d u0 Q u S n 53 (L.set 5 (some (.int (x + 1)))) st h) := tm_r_iinc (j := 5) (k := 1) (by decide +kernel) rfl (by decide) (by decide)
theorem ws_R_links_53 : tm_s M_R_links d u0 Q u S n 53 L st h = tm_w M_R_links d u0 Q u S n 6 L st h := tm_r_goto (off := (-47)) (by decide +kernel) rfl
theorem ws_R_links_56 : tm_s M_R_links d u0 Q u S n 56 L st h = tm_gI L 4 (fun x => tm_w M_R_links d u0 Q u S n 58 L (.int x :: st) h) := tm_r_iload (j := 4) (by decide +kernel) rfl
theorem ws_R_links_58 : tm_s M_R_links d u0 Q u S n 58 L st h = tm_p1 st (fun x r => r = [] ∧ Q (.inl (some (.int x))) h) := tm_r_iret (by decide +kernel) rfl
theorem ws_R_agree_0 : tm_s M_R_agree d u0 Q u S n 0 L st h = tm_gA L 0 (fun x => tm_w M_R_agree d u0 Q u S n 1 L (.ref x :: st) h) := tm_r_aload_n (i := 0) (by decide +kernel) rfl rfl
theorem ws_R_agree_1 : tm_s M_R_agree d u0 Q u S n 1 L st h = tm_pA st (fun a r => tm_cO (h a) 5 (fun fs => tm_fv fs 9 (fun v => tm_w M_R_agree d u0 Q u S n 4 L (v :: r) h))) := tm_r_getf (i := 29) (by decide +kernel) rfl (by decide +kernel)
theorem ws_R_agree_4 : tm_s M_R_agree d u0 Q u S n 4 L st h = tm_gI L 2 (fun x => tm_w M_R_agree d u0 Q u S n 5 L (.int x :: st) h) := tm_r_iload_n (i := 2) (by decide +kernel) rfl rfl
theorem ws_R_agree_5 : tm_s M_R_agree d u0 Q u S n 5 L st h = tm_p1 st (fun i r => tm_pA r (fun a r => tm_cI (h a) (fun k f => vp_in i k ∧ tm_w M_R_agree d u0 Q u S n 6 L (.int (f i.toNatClampNeg) :: r) h))) := tm_r_iaload (by decide +kernel) rfl
theorem ws_R_agree_6 : tm_s M_R_agree d u0 Q u S n 6 L st h = tm_gA L 0 (fun x => tm_w M_R_agree d u0 Q u S n 7 L (.ref x :: st) h) := tm_r_aload_n (i := 0) (by decide +kernel) rfl rfl
theorem ws_R_agree_7 : tm_s M_R_agree d u0 Q u S n 7 L st h = tm_pA st (fun a r => tm_cO (h a) 5 (fun fs => tm_fv fs 9 (fun v => tm_w M_R_agree d u0 Q u S n 10 L (v :: r) h))) := tm_r_getf (i := 29) (by decide +kernel) rfl (by decide +kernel)
theorem ws_R_agree_10 : tm_s M_R_agree d u0 Q u S n 10 L st h = tm_gI L 3 (fun x => tm_w M_R_agree d u0 Q u S n 11 L (.int x :: st) h) := tm_r_iload_n (i := 3) (by decide +kernel) rfl rfl
theorem ws_R_agree_11 : tm_s M_R_agree d u0 Q u S n 11 L st h = tm_p1 st (fun i r => tm_pA r (fun a r => tm_cI (h a) (fun k f => vp_in i k ∧ tm_w M_R_agree d u0 Q u S n 12 L (.int (f i.toNatClampNeg) :: r) h))) := tm_r_iaload (by decide +kernel) rfl
theorem ws_R_agree_12 : tm_s M_R_agree d u0 Q u S n 12 L st h = tm_p1 st (fun y r => tm_p1 r (fun x r => (¬ x = y → tm_w M_R_agree d u0 Q u S n 19 L r h) ∧ (¬ ¬ x = y → tm_w M_R_agree d u0 Q u S n 15 L r h))) := tm_r_icne (off := 7) (by decide +kernel) rfl rfl
theorem ws_R_agree_15 : tm_s M_R_agree d u0 Q u S n 15 L st h = tm_w M_R_agree d u0 Q u S n 16 L (.int 1 :: st) h := tm_r_iconst (k := 1) (by decide +kernel) rfl (by decide)
theorem ws_R_agree_16 : tm_s M_R_agree d u0 Q u S n 16 L st h = tm_w M_R_agree d u0 Q u S n 20 L st h := tm_r_goto (off := 4) (by decide +kernel) rfl
theorem ws_R_agree_19 : tm_s M_R_agree d u0 Q u S n 19 L st h = tm_w M_R_agree d u0 Q u S n 20 L (.int 0 :: st) h := tm_r_iconst (k := 0) (by decide +kernel) rfl (by decide)
theorem ws_R_agree_20 : tm_s M_R_agree d u0 Q u S n 20 L st h = tm_p1 st (fun x r => tm_w M_R_agree d u0 Q u S n 22 (L.set 4 (some (.int x))) r h) := tm_r_istore (j := 4) (by decide +kernel) rfl (by decide)
theorem ws_R_agree_22 : tm_s M_R_agree d u0 Q u S n 22 L st h = tm_w M_R_agree d u0 Q u S n 23 L (.int 0 :: st) h := tm_r_iconst (k := 0) (by decide +kernel) rfl (by decide)
theorem ws_R_agree_23 : tm_s M_R_agree d u0 Q u S n 23 L st h = tm_p1 st (fun x r => tm_w M_R_agree d u0 Q u S n 25 (L.set 5 (some (.int x))) r h) := tm_r_istore (j := 5) (by decide +kernel) rfl (by decide)
theorem ws_R_agree_25 : tm_s M_R_agree d u0 Q u S n 25 L st h = tm_gI L 5 (fun x => tm_w M_R_agree d u0 Q u S n 27 L (.int x :: st) h) := tm_r_iload (j := 5) (by decide +kernel) rfl
theorem ws_R_agree_27 : tm_s M_R_agree d u0 Q u S n 27 L st h = tm_w M_R_agree d u0 Q u S n 29 L (.int 7 :: st) h := tm_r_bipush (k := 7) (by decide +kernel) rfl (by decide)
theorem ws_R_agree_29 : tm_s M_R_agree d u0 Q u S n 29 L st h = tm_p1 st (fun y r => tm_p1 r (fun x r => (y ≤ x → tm_w M_R_agree d u0 Q u S n 69 L r h) ∧ (¬ y ≤ x → tm_w M_R_agree d u0 Q u S n 32 L r h))) := tm_r_icge (off := 40) (by decide +kernel) rfl rfl
theorem ws_R_agree_32 : tm_s M_R_agree d u0 Q u S n 32 L st h = tm_gI L 4 (fun x => tm_w M_R_agree d u0 Q u S n 34 L (.int x :: st) h) := tm_r_iload (j := 4) (by decide +kernel) rfl
theorem ws_R_agree_34 : tm_s M_R_agree d u0 Q u S n 34 L st h = tm_p1 st (fun x r => (x = 0 → tm_w M_R_agree d u0 Q u S n 60 L r h) ∧ (¬ x = 0 → tm_w M_R_agree d u0 Q u S n 37 L r h)) := tm_r_ifeq (off := 26) (by decide +kernel) rfl rfl
theorem ws_R_agree_37 : tm_s M_R_agree d u0 Q u S n 37 L st h = tm_gA L 0 (fun x => tm_w M_R_agree d u0 Q u S n 38 L (.ref x :: st) h) := tm_r_aload_n (i := 0) (by decide +kernel) rfl rfl
theorem ws_R_agree_38 : tm_s M_R_agree d u0 Q u S n 38 L st h = tm_gI L 1 (fun x => tm_w M_R_agree d u0 Q u S n 39 L (.int x :: st) h) := tm_r_iload_n (i := 1) (by decide +kernel) rfl rfl
theorem ws_R_agree_39 : tm_s M_R_agree d u0 Q u S n 39 L st h = tm_gI L 2 (fun x => tm_w M_R_agree d u0 Q u S n 40 L (.int x :: st) h) := tm_r_iload_n (i := 2) (by decide +kernel) rfl rfl
theorem ws_R_agree_40 : tm_s M_R_agree d u0 Q u S n 40 L st h = tm_gI L 5 (fun x => tm_w M_R_agree d u0 Q u S n 42 L (.int x :: st) h) := tm_r_iload (j := 5) (by decide +kernel) rfl
theorem dd_R_agree_42 : decode (tm_cc M_R_agree) 42 = .ok (.invokevirtual 101, 3) := by decide +kernel
theorem ws_R_agree_42 : tm_s M_R_agree d u0 Q u S n 42 L st h = tm_T M_R_agree d u0 Q u 42 L st h := tm_r_invv dd_R_agree_42
theorem ws_R_agree_45 : tm_s M_R_agree d u0 Q u S n 45 L st h = tm_gA L 0 (fun x => tm_w M_R_agree d u0 Q u S n 46 L (.ref x :: st) h) := tm_r_aload_n (i := 0) (by decide +kernel) rfl rfl
theorem ws_R_agree_46 : tm_s M_R_agree d u0 Q u S n 46 L st h = tm_gI L 1 (fun x => tm_w M_R_agree d u0 Q u S n 47 L (.int x :: st) h) := tm_r_iload_n (i := 1) (by decide +kernel) rfl rfl
theorem ws_R_agree_47 : tm_s M_R_agree d u0 Q u S n 47 L st h = tm_gI L 3 (fun x => tm_w M_R_agree d u0 Q u S n 48 L (.int x :: st) h) := tm_r_iload_n (i := 3) (by decide +kernel) rfl rfl
theorem ws_R_agree_48 : tm_s M_R_agree d u0 Q u S n 48 L st h = tm_gI L 5 (fun x => tm_w M_R_agree d u0 Q u S n 50 L (.int x :: st) h) := tm_r_iload (j := 5) (by decide +kernel) rfl
theorem dd_R_agree_50 : decode (tm_cc M_R_agree) 50 = .ok (.invokevirtual 101, 3) := by decide +kernel
theorem ws_R_agree_50 : tm_s M_R_agree d u0 Q u S n 50 L st h = tm_T M_R_agree d u0 Q u 50 L st h := tm_r_invv dd_R_agree_50
theorem ws_R_agree_53 : tm_s M_R_agree d u0 Q u S n 53 L st h = tm_p1 st (fun y r => tm_p1 r (fun x r => (¬ x = y → tm_w M_R_agree d u0 Q u S n 60 L r h) ∧ (¬ ¬ x = y → tm_w M_R_agree d u0 Q u S n 56 L r h))) := tm_r_icne (off := 7) (by decide +kernel) rfl rfl
theorem ws_R_agree_56 : tm_s M_R_agree d u0 Q u S n 56 L st h = tm_w M_R_agree d u0 Q u S n 57 L (.int 1 :: st) h := tm_r_iconst (k := 1) (by decide +kernel) rfl (by decide)
theorem ws_R_agree_57 : tm_s M_R_agree d u0 Q u S n 57 L st h = tm_w M_R_agree d u0 Q u S n 61 L st h := tm_r_goto (off := 4) (by decide +kernel) rfl
theorem ws_R_agree_60 : tm_s M_R_agree d u0 Q u S n 60 L st h = tm_w M_R_agree d u0 Q u S n 61 L (.int 0 :: st) h := tm_r_iconst (k := 0) (by decide +kernel) rfl (by decide)
theorem ws_R_agree_61 : tm_s M_R_agree d u0 Q u S n 61 L st h = tm_p1 st (fun x r => tm_w M_R_agree d u0 Q u S n 63 (L.set 4 (some (.int x))) r h) := tm_r_istore (j := 4) (by decide +kernel) rfl (by decide)
theorem ws_R_agree_63 : tm_s M_R_agree d u0 Q u S n 63 L st h = tm_gI L 5 (fun x => tm_w M_R_agree d u0 Q u S n 66 (L.set 5 (some (.int (x + 1)))) st h) := tm_r_iinc (j := 5) (k := 1) (by decide +kernel) rfl (by decide) (by decide)
theorem ws_R_agree_66 : tm_s M_R_agree d u0 Q u S n 66 L st h = tm_w M_R_agree d u0 Q u S n 25 L st h := tm_r_goto (off := (-41)) (by decide +kernel) rfl
theorem ws_R_agree_69 : tm_s M_R_agree d u0 Q u S n 69 L st h = tm_gI L 4 (fun x => tm_w M_R_agree d u0 Q u S n 71 L (.int x :: st) h) := tm_r_iload (j := 4) (by decide +kernel) rfl
theorem ws_R_agree_71 : tm_s M_R_agree d u0 Q u S n 71 L st h = tm_p1 st (fun x r => r = [] ∧ (x = 0 ∨ x = 1) ∧ Q (.inl (some (.int x))) h) := tm_r_zret (by decide +kernel) rfl
theorem ws_R_split_0 : tm_s M_R_split d u0 Q u S n 0 L st h = tm_gA L 0 (fun x => tm_w M_R_split d u0 Q u S n 1 L (.ref x :: st) h) := tm_r_aload_n (i := 0) (by decide +kernel) rfl rfl
theorem ws_R_split_1 : tm_s M_R_split d u0 Q u S n 1 L st h = tm_pA st (fun a r => tm_cO (h a) 5 (fun fs => tm_fv fs 1 (fun v => tm_w M_R_split d u0 Q u S n 4 L (v :: r) h))) := tm_r_getf (i := 7) (by decide +kernel) rfl (by decide +kernel)
theorem ws_R_split_4 : tm_s M_R_split d u0 Q u S n 4 L st h = tm_gI L 1 (fun x => tm_w M_R_split d u0 Q u S n 5 L (.int x :: st) h) := tm_r_iload_n (i := 1) (by decide +kernel) rfl rfl
theorem ws_R_split_5 : tm_s M_R_split d u0 Q u S n 5 L st h = tm_p1 st (fun i r => tm_pA r (fun a r => tm_cI (h a) (fun k f => vp_in i k ∧ tm_w M_R_split d u0 Q u S n 6 L (.int (f i.toNatClampNeg) :: r) h))) := tm_r_iaload (by decide +kernel) rfl
theorem ws_R_split_6 : tm_s M_R_split d u0 Q u S n 6 L st h = tm_p1 st (fun x r => tm_w M_R_split d u0 Q u S n 7 (L.set 2 (some (.int x))) r h) := tm_r_istore_n (i := 2) (by decide +kernel) rfl rfl (by decide)
theorem ws_R_split_7 : tm_s M_R_split d u0 Q u S n 7 L st h = tm_gI L 2 (fun x => tm_w M_R_split d u0 Q u S n 8 L (.int x :: st) h) := tm_r_iload_n (i := 2) (by decide +kernel) rfl rfl
theorem ws_R_split_8 : tm_s M_R_split d u0 Q u S n 8 L st h = tm_w M_R_split d u0 Q u S n 9 L (.int 1 :: st) h := tm_r_iconst (k := 1) (by decide +kernel) rfl (by decide)
theorem ws_R_split_9 : tm_s M_R_split d u0 Q u S n 9 L st h = tm_p1 st (fun y r => tm_p1 r (fun x r => tm_w M_R_split d u0 Q u S n 10 L (.int (x - y) :: r) h)) := tm_r_isub (by decide +kernel) rfl
theorem ws_R_split_10 : tm_s M_R_split d u0 Q u S n 10 L st h = tm_p1 st (fun x r => tm_w M_R_split d u0 Q u S n 11 (L.set 3 (some (.int x))) r h) := tm_r_istore_n (i := 3) (by decide +kernel) rfl rfl (by decide)
theorem ws_R_split_11 : tm_s M_R_split d u0 Q u S n 11 L st h = tm_gI L 3 (fun x => tm_w M_R_split d u0 Q u S n 12 L (.int x :: st) h) := tm_r_iload_n (i := 3) (by decide +kernel) rfl rfl
theorem ws_R_split_12 : tm_s M_R_split d u0 Q u S n 12 L st h = tm_p1 st (fun x r => (x < 0 → tm_w M_R_split d u0 Q u S n 70 L r h) ∧ (¬ x < 0 → tm_w M_R_split d u0 Q u S n 15 L r h)) := tm_r_iflt (off := 58) (by decide +kernel) rfl rfl
theorem ws_R_split_15 : tm_s M_R_split d u0 Q u S n 15 L st h = tm_gI L 3 (fun x => tm_w M_R_split d u0 Q u S n 16 L (.int x :: st) h) := tm_r_iload_n (i := 3) (by decide +kernel) rfl rfl
theorem ws_R_split_16 : tm_s M_R_split d u0 Q u S n 16 L st h = tm_p1 st (fun x r => tm_w M_R_split d u0 Q u S n 18 (L.set 4 (some (.int x))) r h) := tm_r_istore (j := 4) (by decide +kernel) rfl (by decide)
theorem ws_R_split_18 : tm_s M_R_split d u0 Q u S n 18 L st h = tm_gI L 4 (fun x => tm_w M_R_split d u0 Q u S n 20 L (.int x :: st) h) := tm_r_iload (j := 4) (by decide +kernel) rfl
theorem ws_R_split_20 : tm_s M_R_split d u0 Q u S n 20 L st h = tm_gI L 2 (fun x => tm_w M_R_split d u0 Q u S n 21 L (.int x :: st) h) := tm_r_iload_n (i := 2) (by decide +kernel) rfl rfl
theorem ws_R_split_21 : tm_s M_R_split d u0 Q u S n 21 L st h = tm_p1 st (fun y r => tm_p1 r (fun x r => (y ≤ x → tm_w M_R_split d u0 Q u S n 64 L r h) ∧ (¬ y ≤ x → tm_w M_R_split d u0 Q u S n 24 L r h))) := tm_r_icge (off := 43) (by decide +kernel) rfl rfl
theorem ws_R_split_24 : tm_s M_R_split d u0 Q u S n 24 L st h = tm_gA L 0 (fun x => tm_w M_R_split d u0 Q u S n 25 L (.ref x :: st) h) := tm_r_aload_n (i := 0) (by decide +kernel) rfl rfl
theorem ws_R_split_25 : tm_s M_R_split d u0 Q u S n 25 L st h = tm_pA st (fun a r => tm_cO (h a) 5 (fun fs => tm_fv fs 9 (fun v => tm_w M_R_split d u0 Q u S n 28 L (v :: r) h))) := tm_r_getf (i := 29) (by decide +kernel) rfl (by decide +kernel)
theorem ws_R_split_28 : tm_s M_R_split d u0 Q u S n 28 L st h = tm_gI L 4 (fun x => tm_w M_R_split d u0 Q u S n 30 L (.int x :: st) h) := tm_r_iload (j := 4) (by decide +kernel) rfl
theorem ws_R_split_30 : tm_s M_R_split d u0 Q u S n 30 L st h = tm_gA L 0 (fun x => tm_w M_R_split d u0 Q u S n 31 L (.ref x :: st) h) := tm_r_aload_n (i := 0) (by decide +kernel) rfl rfl
theorem ws_R_split_31 : tm_s M_R_split d u0 Q u S n 31 L st h = tm_gI L 1 (fun x => tm_w M_R_split d u0 Q u S n 32 L (.int x :: st) h) := tm_r_iload_n (i := 1) (by decide +kernel) rfl rfl
theorem ws_R_split_32 : tm_s M_R_split d u0 Q u S n 32 L st h = tm_gI L 4 (fun x => tm_w M_R_split d u0 Q u S n 34 L (.int x :: st) h) := tm_r_iload (j := 4) (by decide +kernel) rfl
theorem dd_R_split_34 : decode (tm_cc M_R_split) 34 = .ok (.invokevirtual 64, 3) := by decide +kernel
theorem ws_R_split_34 : tm_s M_R_split d u0 Q u S n 34 L st h = tm_T M_R_split d u0 Q u 34 L st h := tm_r_invv dd_R_split_34
theorem ws_R_split_37 : tm_s M_R_split d u0 Q u S n 37 L st h = tm_gA L 0 (fun x => tm_w M_R_split d u0 Q u S n 38 L (.ref x :: st) h) := tm_r_aload_n (i := 0) (by decide +kernel) rfl rfl
theorem ws_R_split_38 : tm_s M_R_split d u0 Q u S n 38 L st h = tm_gI L 1 (fun x => tm_w M_R_split d u0 Q u S n 39 L (.int x :: st) h) := tm_r_iload_n (i := 1) (by decide +kernel) rfl rfl
theorem ws_R_split_39 : tm_s M_R_split d u0 Q u S n 39 L st h = tm_gI L 3 (fun x => tm_w M_R_split d u0 Q u S n 40 L (.int x :: st) h) := tm_r_iload_n (i := 3) (by decide +kernel) rfl rfl
theorem dd_R_split_40 : decode (tm_cc M_R_split) 40 = .ok (.invokevirtual 64, 3) := by decide +kernel
theorem ws_R_split_40 : tm_s M_R_split d u0 Q u S n 40 L st h = tm_T M_R_split d u0 Q u 40 L st h := tm_r_invv dd_R_split_40
theorem ws_R_split_43 : tm_s M_R_split d u0 Q u S n 43 L st h = tm_p1 st (fun y r => tm_p1 r (fun x r => (¬ x = y → tm_w M_R_split d u0 Q u S n 50 L r h) ∧ (¬ ¬ x = y → tm_w M_R_split d u0 Q u S n 46 L r h))) := tm_r_icne (off := 7) (by decide +kernel) rfl rfl
theorem ws_R_split_46 : tm_s M_R_split d u0 Q u S n 46 L st h = tm_gI L 3 (fun x => tm_w M_R_split d u0 Q u S n 47 L (.int x :: st) h) := tm_r_iload_n (i := 3) (by decide +kernel) rfl rfl
theorem ws_R_split_47 : tm_s M_R_split d u0 Q u S n 47 L st h = tm_w M_R_split d u0 Q u S n 57 L st h := tm_r_goto (off := 10) (by decide +kernel) rfl
theorem ws_R_split_50 : tm_s M_R_split d u0 Q u S n 50 L st h = tm_gA L 0 (fun x => tm_w M_R_split d u0 Q u S n 51 L (.ref x :: st) h) := tm_r_aload_n (i := 0) (by decide +kernel) rfl rfl
theorem ws_R_split_51 : tm_s M_R_split d u0 Q u S n 51 L st h = tm_pA st (fun a r => tm_cO (h a) 5 (fun fs => tm_fv fs 9 (fun v => tm_w M_R_split d u0 Q u S n 54 L (v :: r) h))) := tm_r_getf (i := 29) (by decide +kernel) rfl (by decide +kernel)
theorem ws_R_split_54 : tm_s M_R_split d u0 Q u S n 54 L st h = tm_gI L 4 (fun x => tm_w M_R_split d u0 Q u S n 56 L (.int x :: st) h) := tm_r_iload (j := 4) (by decide +kernel) rfl
theorem ws_R_split_56 : tm_s M_R_split d u0 Q u S n 56 L st h = tm_p1 st (fun i r => tm_pA r (fun a r => tm_cI (h a) (fun k f => vp_in i k ∧ tm_w M_R_split d u0 Q u S n 57 L (.int (f i.toNatClampNeg) :: r) h))) := tm_r_iaload (by decide +kernel) rfl
theorem ws_R_split_57 : tm_s M_R_split d u0 Q u S n 57 L st h = tm_p1 st (fun x r => tm_p1 r (fun i r => tm_pA r (fun a r => tm_cI (h a) (fun k f => a < tm_K ∧ vp_in i k ∧ tm_w M_R_split d u0 Q u S n 58 L r (tm_up h a (tm_i k (upd f i.toNatClampNeg x))))))) := tm_r_iastore (by decide +kernel) rfl
theorem ws_R_split_58 : tm_s M_R_split d u0 Q u S n 58 L st h = tm_gI L 4 (fun x => tm_w M_R_split d u0 Q u S n 61 (L.set 4 (some (.int (x + 1)))) st h) := tm_r_iinc (j := 4) (k := 1) (by decide +kernel) rfl (by decide) (by decide)
theorem ws_R_split_61 : tm_s M_R_split d u0 Q u S n 61 L st h = tm_w M_R_split d u0 Q u S n 18 L st h := tm_r_goto (off := (-43)) (by decide +kernel) rfl
theorem ws_R_split_64 : tm_s M_R_split d u0 Q u S n 64 L st h = tm_gI L 3 (fun x => tm_w M_R_split d u0 Q u S n 67 (L.set 3 (some (.int (x + (-1))))) st h) := tm_r_iinc (j := 3) (k := (-1)) (by decide +kernel) rfl (by decide) (by decide)
theorem ws_R_split_67 : tm_s M_R_split d u0 Q u S n 67 L st h = tm_w M_R_split d u0 Q u S n 11 L st h := tm_r_goto (off := (-56)) (by decide +kernel) rfl
theorem ws_R_split_70 : tm_s M_R_split d u0 Q u S n 70 L st h = tm_w M_R_split d u0 Q u S n 71 L (.int 1 :: st) h := tm_r_iconst (k := 1) (by decide +kernel) rfl (by decide)
theorem ws_R_split_71 : tm_s M_R_split d u0 Q u S n 71 L st h = tm_p1 st (fun x r => tm_w M_R_split d u0 Q u S n 72 (L.set 3 (some (.int x))) r h) := tm_r_istore_n (i := 3) (by decide +kernel) rfl rfl (by decide)
theorem ws_R_split_72 : tm_s M_R_split d u0 Q u S n 72 L st h = tm_gI L 3 (fun x => tm_w M_R_split d u0 Q u S n 73 L (.int x :: st) h) := tm_r_iload_n (i := 3) (by decide +kernel) rfl rfl
theorem ws_R_split_73 : tm_s M_R_split d u0 Q u S n 73 L st h = tm_p1 st (fun x r => (x = 0 → tm_w M_R_split d u0 Q u S n 207 L r h) ∧ (¬ x = 0 → tm_w M_R_split d u0 Q u S n 76 L r h)) := tm_r_ifeq (off := 134) (by decide +kernel) rfl rfl
theorem ws_R_split_76 : tm_s M_R_split d u0 Q u S n 76 L st h = tm_w M_R_split d u0 Q u S n 77 L (.int 0 :: st) h := tm_r_iconst (k := 0) (by decide +kernel) rfl (by decide)
theorem ws_R_split_77 : tm_s M_R_split d u0 Q u S n 77 L st h = tm_p1 st (fun x r => tm_w M_R_split d u0 Q u S n 78 (L.set 3 (some (.int x))) r h) := tm_r_istore_n (i := 3) (by decide +kernel) rfl rfl (by decide)
theorem ws_R_split_78 : tm_s M_R_split d u0 Q u S n 78 L st h = tm_gI L 2 (fun x => tm_w M_R_split d u0 Q u S n 79 L (.int x :: st) h) := tm_r_iload_n (i := 2) (by decide +kernel) rfl rfl
theorem ws_R_split_79 : tm_s M_R_split d u0 Q u S n 79 L st h = tm_w M_R_split d u0 Q u S n 80 L (.int 1 :: st) h := tm_r_iconst (k := 1) (by decide +kernel) rfl (by decide)
theorem ws_R_split_80 : tm_s M_R_split d u0 Q u S n 80 L st h = tm_p1 st (fun y r => tm_p1 r (fun x r => tm_w M_R_split d u0 Q u S n 81 L (.int (x - y) :: r) h)) := tm_r_isub (by decide +kernel) rfl
theorem ws_R_split_81 : tm_s M_R_split d u0 Q u S n 81 L st h = tm_p1 st (fun x r => tm_w M_R_split d u0 Q u S n 83 (L.set 4 (some (.int x))) r h) := tm_r_istore (j := 4) (by decide +kernel) rfl (by decide)
theorem ws_R_split_83 : tm_s M_R_split d u0 Q u S n 83 L st h = tm_gI L 4 (fun x => tm_w M_R_split d u0 Q u S n 85 L (.int x :: st) h) := tm_r_iload (j := 4) (by decide +kernel) rfl
theorem ws_R_split_85 : tm_s M_R_split d u0 Q u S n 85 L st h = tm_p1 st (fun x r => (x < 0 → tm_w M_R_split d u0 Q u S n 148 L r h) ∧ (¬ x < 0 → tm_w M_R_split d u0 Q u S n 88 L r h)) := tm_r_iflt (off := 63) (by decide +kernel) rfl rfl
theorem ws_R_split_88 : tm_s M_R_split d u0 Q u S n 88 L st h = tm_gI L 4 (fun x => tm_w M_R_split d u0 Q u S n 90 L (.int x :: st) h) := tm_r_iload (j := 4) (by decide +kernel) rfl
theorem ws_R_split_90 : tm_s M_R_split d u0 Q u S n 90 L st h = tm_p1 st (fun x r => tm_w M_R_split d u0 Q u S n 92 (L.set 5 (some (.int x))) r h) := tm_r_istore (j := 5) (by decide +kernel) rfl (by decide)
theorem ws_R_split_92 : tm_s M_R_split d u0 Q u S n 92 L st h = tm_gI L 5 (fun x => tm_w M_R_split d u0 Q u S n 94 L (.int x :: st) h) := tm_r_iload (j := 5) (by decide +kernel) rfl
theorem ws_R_split_94 : tm_s M_R_split d u0 Q u S n 94 L st h = tm_gI L 2 (fun x => tm_w M_R_split d u0 Q u S n 95 L (.int x :: st) h) := tm_r_iload_n (i := 2) (by decide +kernel) rfl rfl
theorem ws_R_split_95 : tm_s M_R_split d u0 Q u S n 95 L st h = tm_p1 st (fun y r => tm_p1 r (fun x r => (y ≤ x → tm_w M_R_split d u0 Q u S n 142 L r h) ∧ (¬ y ≤ x → tm_w M_R_split d u0 Q u S n 98 L r h))) := tm_r_icge (off := 47) (by decide +kernel) rfl rfl
theorem ws_R_split_98 : tm_s M_R_split d u0 Q u S n 98 L st h = tm_gA L 0 (fun x => tm_w M_R_split d u0 Q u S n 99 L (.ref x :: st) h) := tm_r_aload_n (i := 0) (by decide +kernel) rfl rfl
theorem ws_R_split_99 : tm_s M_R_split d u0 Q u S n 99 L st h = tm_pA st (fun a r => tm_cO (h a) 5 (fun fs => tm_fv fs 10 (fun v => tm_w M_R_split d u0 Q u S n 102 L (v :: r) h))) := tm_r_getf (i := 32) (by decide +kernel) rfl (by decide +kernel)
theorem ws_R_split_102 : tm_s M_R_split d u0 Q u S n 102 L st h = tm_gI L 5 (fun x => tm_w M_R_split d u0 Q u S n 104 L (.int x :: st) h) := tm_r_iload (j := 5) (by decide +kernel) rfl
theorem ws_R_split_104 : tm_s M_R_split d u0 Q u S n 104 L st h = tm_gI L 5 (fun x => tm_w M_R_split d u0 Q u S n 106 L (.int x :: st) h) := tm_r_iload (j := 5) (by decide +kernel) rfl
theorem ws_R_split_106 : tm_s M_R_split d u0 Q u S n 106 L st h = tm_gI L 4 (fun x => tm_w M_R_split d u0 Q u S n 108 L (.int x :: st) h) := tm_r_iload (j := 4) (by decide +kernel) rfl
theorem ws_R_split_108 : tm_s M_R_split d u0 Q u S n 108 L st h = tm_p1 st (fun y r => tm_p1 r (fun x r => (x = y → tm_w M_R_split d u0 Q u S n 123 L r h) ∧ (¬ x = y → tm_w M_R_split d u0 Q u S n 111 L r h))) := tm_r_iceq (off := 15) (by decide +kernel) rfl rfl
theorem ws_R_split_111 : tm_s M_R_split d u0 Q u S n 111 L st h = tm_gA L 0 (fun x => tm_w M_R_split d u0 Q u S n 112 L (.ref x :: st) h) := tm_r_aload_n (i := 0) (by decide +kernel) rfl rfl
theorem ws_R_split_112 : tm_s M_R_split d u0 Q u S n 112 L st h = tm_gI L 1 (fun x => tm_w M_R_split d u0 Q u S n 113 L (.int x :: st) h) := tm_r_iload_n (i := 1) (by decide +kernel) rfl rfl
theorem ws_R_split_113 : tm_s M_R_split d u0 Q u S n 113 L st h = tm_gI L 4 (fun x => tm_w M_R_split d u0 Q u S n 115 L (.int x :: st) h) := tm_r_iload (j := 4) (by decide +kernel) rfl
theorem ws_R_split_115 : tm_s M_R_split d u0 Q u S n 115 L st h = tm_gI L 5 (fun x => tm_w M_R_split d u0 Q u S n 117 L (.int x :: st) h) := tm_r_iload (j := 5) (by decide +kernel) rfl
theorem dd_R_split_117 : decode (tm_cc M_R_split) 117 = .ok (.invokevirtual 105, 3) := by decide +kernel
theorem ws_R_split_117 : tm_s M_R_split d u0 Q u S n 117 L st h = tm_T M_R_split d u0 Q u 117 L st h := tm_r_invv dd_R_split_117
theorem ws_R_split_120 : tm_s M_R_split d u0 Q u S n 120 L st h = tm_p1 st (fun x r => (x = 0 → tm_w M_R_split d u0 Q u S n 128 L r h) ∧ (¬ x = 0 → tm_w M_R_split d u0 Q u S n 123 L r h)) := tm_r_ifeq (off := 8) (by decide +kernel) rfl rfl
theorem ws_R_split_123 : tm_s M_R_split d u0 Q u S n 123 L st h = tm_gI L 4 (fun x => tm_w M_R_split d u0 Q u S n 125 L (.int x :: st) h) := tm_r_iload (j := 4) (by decide +kernel) rfl
theorem ws_R_split_125 : tm_s M_R_split d u0 Q u S n 125 L st h = tm_w M_R_split d u0 Q u S n 135 L st h := tm_r_goto (off := 10) (by decide +kernel) rfl
theorem ws_R_split_128 : tm_s M_R_split d u0 Q u S n 128 L st h = tm_gA L 0 (fun x => tm_w M_R_split d u0 Q u S n 129 L (.ref x :: st) h) := tm_r_aload_n (i := 0) (by decide +kernel) rfl rfl
theorem ws_R_split_129 : tm_s M_R_split d u0 Q u S n 129 L st h = tm_pA st (fun a r => tm_cO (h a) 5 (fun fs => tm_fv fs 10 (fun v => tm_w M_R_split d u0 Q u S n 132 L (v :: r) h))) := tm_r_getf (i := 32) (by decide +kernel) rfl (by decide +kernel)
theorem ws_R_split_132 : tm_s M_R_split d u0 Q u S n 132 L st h = tm_gI L 5 (fun x => tm_w M_R_split d u0 Q u S n 134 L (.int x :: st) h) := tm_r_iload (j := 5) (by decide +kernel) rfl
theorem ws_R_split_134 : tm_s M_R_split d u0 Q u S n 134 L st h = tm_p1 st (fun i r => tm_pA r (fun a r => tm_cI (h a) (fun k f => vp_in i k ∧ tm_w M_R_split d u0 Q u S n 135 L (.int (f i.toNatClampNeg) :: r) h))) := tm_r_iaload (by decide +kernel) rfl
theorem ws_R_split_135 : tm_s M_R_split d u0 Q u S n 135 L st h = tm_p1 st (fun x r => tm_p1 r (fun i r => tm_pA r (fun a r => tm_cI (h a) (fun k f => a < tm_K ∧ vp_in i k ∧ tm_w M_R_split d u0 Q u S n 136 L r (tm_up h a (tm_i k (upd f i.toNatClampNeg x))))))) := tm_r_iastore (by decide +kernel) rfl
theorem ws_R_split_136 : tm_s M_R_split d u0 Q u S n 136 L st h = tm_gI L 5 (fun x => tm_w M_R_split d u0 Q u S n 139 (L.set 5 (some (.int (x + 1)))) st h) := tm_r_iinc (j := 5) (k := 1) (by decide +kernel) rfl (by decide) (by decide)
theorem ws_R_split_139 : tm_s M_R_split d u0 Q u S n 139 L st h = tm_w M_R_split d u0 Q u S n 92 L st h := tm_r_goto (off := (-47)) (by decide +kernel) rfl
theorem ws_R_split_142 : tm_s M_R_split d u0 Q u S n 142 L st h = tm_gI L 4 (fun x => tm_w M_R_split d u0 Q u S n 145 (L.set 4 (some (.int (x + (-1))))) st h) := tm_r_iinc (j := 4) (k := (-1)) (by decide +kernel) rfl (by decide) (by decide)
theorem ws_R_split_145 : tm_s M_R_split d u0 Q u S n 145 L st h = tm_w M_R_split d u0 Q u S n 83 L st h := tm_r_goto (off := (-62)) (by decide +kernel) rfl
theorem ws_R_split_148 : tm_s M_R_split d u0 Q u S n 148 L st h = tm_w M_R_split d u0 Q u S n 149 L (.int 0 :: st) h := tm_r_iconst (k := 0) (by decide +kernel) rfl (by decide)
theorem ws_R_split_149 : tm_s M_R_split d u0 Q u S n 149 L st h = tm_p1 st (fun x r => tm_w M_R_split d u0 Q u S n 151 (L.set 4 (some (.int x))) r h) := tm_r_istore (j := 4) (by decide +kernel) rfl (by decide)
theorem ws_R_split_151 : tm_s M_R_split d u0 Q u S n 151 L st h = tm_gI L 4 (fun x => tm_w M_R_split d u0 Q u S n 153 L (.int x :: st) h) := tm_r_iload (j := 4) (by decide +kernel) rfl
theorem ws_R_split_153 : tm_s M_R_split d u0 Q u S n 153 L st h = tm_gI L 2 (fun x => tm_w M_R_split d u0 Q u S n 154 L (.int x :: st) h) := tm_r_iload_n (i := 2) (by decide +kernel) rfl rfl
theorem ws_R_split_154 : tm_s M_R_split d u0 Q u S n 154 L st h = tm_p1 st (fun y r => tm_p1 r (fun x r => (y ≤ x → tm_w M_R_split d u0 Q u S n 204 L r h) ∧ (¬ y ≤ x → tm_w M_R_split d u0 Q u S n 157 L r h))) := tm_r_icge (off := 50) (by decide +kernel) rfl rfl
theorem ws_R_split_157 : tm_s M_R_split d u0 Q u S n 157 L st h = tm_gI L 3 (fun x => tm_w M_R_split d u0 Q u S n 158 L (.int x :: st) h) := tm_r_iload_n (i := 3) (by decide +kernel) rfl rfl
theorem ws_R_split_158 : tm_s M_R_split d u0 Q u S n 158 L st h = tm_p1 st (fun x r => (¬ x = 0 → tm_w M_R_split d u0 Q u S n 178 L r h) ∧ (¬ ¬ x = 0 → tm_w M_R_split d u0 Q u S n 161 L r h)) := tm_r_ifne (off := 20) (by decide +kernel) rfl rfl
theorem ws_R_split_161 : tm_s M_R_split d u0 Q u S n 161 L st h = tm_gA L 0 (fun x => tm_w M_R_split d u0 Q u S n 162 L (.ref x :: st) h) := tm_r_aload_n (i := 0) (by decide +kernel) rfl rfl
theorem ws_R_split_162 : tm_s M_R_split d u0 Q u S n 162 L st h = tm_pA st (fun a r => tm_cO (h a) 5 (fun fs => tm_fv fs 10 (fun v => tm_w M_R_split d u0 Q u S n 165 L (v :: r) h))) := tm_r_getf (i := 32) (by decide +kernel) rfl (by decide +kernel)
theorem ws_R_split_165 : tm_s M_R_split d u0 Q u S n 165 L st h = tm_gI L 4 (fun x => tm_w M_R_split d u0 Q u S n 167 L (.int x :: st) h) := tm_r_iload (j := 4) (by decide +kernel) rfl
theorem ws_R_split_167 : tm_s M_R_split d u0 Q u S n 167 L st h = tm_p1 st (fun i r => tm_pA r (fun a r => tm_cI (h a) (fun k f => vp_in i k ∧ tm_w M_R_split d u0 Q u S n 168 L (.int (f i.toNatClampNeg) :: r) h))) := tm_r_iaload (by decide +kernel) rfl
theorem ws_R_split_168 : tm_s M_R_split d u0 Q u S n 168 L st h = tm_gA L 0 (fun x => tm_w M_R_split d u0 Q u S n 169 L (.ref x :: st) h) := tm_r_aload_n (i := 0) (by decide +kernel) rfl rfl
theorem ws_R_split_169 : tm_s M_R_split d u0 Q u S n 169 L st h = tm_pA st (fun a r => tm_cO (h a) 5 (fun fs => tm_fv fs 9 (fun v => tm_w M_R_split d u0 Q u S n 172 L (v :: r) h))) := tm_r_getf (i := 29) (by decide +kernel) rfl (by decide +kernel)
theorem ws_R_split_172 : tm_s M_R_split d u0 Q u S n 172 L st h = tm_gI L 4 (fun x => tm_w M_R_split d u0 Q u S n 174 L (.int x :: st) h) := tm_r_iload (j := 4) (by decide +kernel) rfl
theorem ws_R_split_174 : tm_s M_R_split d u0 Q u S n 174 L st h = tm_p1 st (fun i r => tm_pA r (fun a r => tm_cI (h a) (fun k f => vp_in i k ∧ tm_w M_R_split d u0 Q u S n 175 L (.int (f i.toNatClampNeg) :: r) h))) := tm_r_iaload (by decide +kernel) rfl
theorem ws_R_split_175 : tm_s M_R_split d u0 Q u S n 175 L st h = tm_p1 st (fun y r => tm_p1 r (fun x r => (x = y → tm_w M_R_split d u0 Q u S n 182 L r h) ∧ (¬ x = y → tm_w M_R_split d u0 Q u S n 178 L r h))) := tm_r_iceq (off := 7) (by decide +kernel) rfl rfl
theorem ws_R_split_178 : tm_s M_R_split d u0 Q u S n 178 L st h = tm_w M_R_split d u0 Q u S n 179 L (.int 1 :: st) h := tm_r_iconst (k := 1) (by decide +kernel) rfl (by decide)
theorem ws_R_split_179 : tm_s M_R_split d u0 Q u S n 179 L st h = tm_w M_R_split d u0 Q u S n 183 L st h := tm_r_goto (off := 4) (by decide +kernel) rfl
theorem ws_R_split_182 : tm_s M_R_split d u0 Q u S n 182 L st h = tm_w M_R_split d u0 Q u S n 183 L (.int 0 :: st) h := tm_r_iconst (k := 0) (by decide +kernel) rfl (by decide)
theorem ws_R_split_183 : tm_s M_R_split d u0 Q u S n 183 L st h = tm_p1 st (fun x r => tm_w M_R_split d u0 Q u S n 184 (L.set 3 (some (.int x))) r h) := tm_r_istore_n (i := 3) (by decide +kernel) rfl rfl (by decide)
theorem ws_R_split_184 : tm_s M_R_split d u0 Q u S n 184 L st h = tm_gA L 0 (fun x => tm_w M_R_split d u0 Q u S n 185 L (.ref x :: st) h) := tm_r_aload_n (i := 0) (by decide +kernel) rfl rfl
theorem ws_R_split_185 : tm_s M_R_split d u0 Q u S n 185 L st h = tm_pA st (fun a r => tm_cO (h a) 5 (fun fs => tm_fv fs 9 (fun v => tm_w M_R_split d u0 Q u S n 188 L (v :: r) h))) := tm_r_getf (i := 29) (by decide +kernel) rfl (by decide +kernel)
theorem ws_R_split_188 : tm_s M_R_split d u0 Q u S n 188 L st h = tm_gI L 4 (fun x => tm_w M_R_split d u0 Q u S n 190 L (.int x :: st) h) := tm_r_iload (j := 4) (by decide +kernel) rfl
theorem ws_R_split_190 : tm_s M_R_split d u0 Q u S n 190 L st h = tm_gA L 0 (fun x => tm_w M_R_split d u0 Q u S n 191 L (.ref x :: st) h) := tm_r_aload_n (i := 0) (by decide +kernel) rfl rfl
theorem ws_R_split_191 : tm_s M_R_split d u0 Q u S n 191 L st h = tm_pA st (fun a r => tm_cO (h a) 5 (fun fs => tm_fv fs 10 (fun v => tm_w M_R_split d u0 Q u S n 194 L (v :: r) h))) := tm_r_getf (i := 32) (by decide +kernel) rfl (by decide +kernel)
theorem ws_R_split_194 : tm_s M_R_split d u0 Q u S n 194 L st h = tm_gI L 4 (fun x => tm_w M_R_split d u0 Q u S n 196 L (.int x :: st) h) := tm_r_iload (j := 4) (by decide +kernel) rfl
theorem ws_R_split_196 : tm_s M_R_split d u0 Q u S n 196 L st h = tm_p1 st (fun i r => tm_pA r (fun a r => tm_cI (h a) (fun k f => vp_in i k ∧ tm_w M_R_split d u0 Q u S n 197 L (.int (f i.toNatClampNeg) :: r) h))) := tm_r_iaload (by decide +kernel) rfl
theorem ws_R_split_197 : tm_s M_R_split d u0 Q u S n 197 L st h = tm_p1 st (fun x r => tm_p1 r (fun i r => tm_pA r (fun a r => tm_cI (h a) (fun k f => a < tm_K ∧ vp_in i k ∧ tm_w M_R_split d u0 Q u S n 198 L r (tm_up h a (tm_i k (upd f i.toNatClampNeg x))))))) := tm_r_iastore (by decide +kernel) rfl
theorem ws_R_split_198 : tm_s M_R_split d u0 Q u S n 198 L st h = tm_gI L 4 (fun x => tm_w M_R_split d u0 Q u S n 201 (L.set 4 (some (.int (x + 1)))) st h) := tm_r_iinc (j := 4) (k := 1) (by decide +kernel) rfl (by decide) (by decide)
theorem ws_R_split_201 : tm_s M_R_split d u0 Q u S n 201 L st h = tm_w M_R_split d u0 Q u S n 151 L st h := tm_r_goto (off := (-50)) (by decide +kernel) rfl
theorem ws_R_split_204 : tm_s M_R_split d u0 Q u S n 204 L st h = tm_w M_R_split d u0 Q u S n 72 L st h := tm_r_goto (off := (-132)) (by decide +kernel) rfl
theorem ws_R_split_207 : tm_s M_R_split d u0 Q u S n 207 L st h = (st = [] ∧ Q (.inl none) h) := tm_r_vret (by decide +kernel) rfl
theorem ws_R_size_0 : tm_s M_R_size d u0 Q u S n 0 L st h = tm_gA L 0 (fun x => tm_w M_R_size d u0 Q u S n 1 L (.ref x :: st) h) := tm_r_aload_n (i := 0) (by decide +kernel) rfl rfl
theorem ws_R_size_1 : tm_s M_R_size d u0 Q u S n 1 L st h = tm_gI L 1 (fun x => tm_w M_R_size d u0 Q u S n 2 L (.int x :: st) h) := tm_r_iload_n (i := 1) (by decide +kernel) rfl rfl
theorem dd_R_size_2 : decode (tm_cc M_R_size) 2 = .ok (.invokestatic 45, 3) := by decide +kernel
theorem ws_R_size_2 : tm_s M_R_size d u0 Q u S n 2 L st h = tm_T M_R_size d u0 Q u 2 L st h := tm_r_invs dd_R_size_2
theorem ws_R_size_5 : tm_s M_R_size d u0 Q u S n 5 L st h = tm_p1 st (fun x r => (x = 0 → tm_w M_R_size d u0 Q u S n 12 L r h) ∧ (¬ x = 0 → tm_w M_R_size d u0 Q u S n 8 L r h)) := tm_r_ifeq (off := 7) (by decide +kernel) rfl rfl
theorem ws_R_size_8 : tm_s M_R_size d u0 Q u S n 8 L st h = tm_w M_R_size d u0 Q u S n 9 L (.int 1 :: st) h := tm_r_iconst (k := 1) (by decide +kernel) rfl (by decide)
theorem ws_R_size_9 : tm_s M_R_size d u0 Q u S n 9 L st h = tm_w M_R_size d u0 Q u S n 13 L st h := tm_r_goto (off := 4) (by decide +kernel) rfl
theorem ws_R_size_12 : tm_s M_R_size d u0 Q u S n 12 L st h = tm_w M_R_size d u0 Q u S n 13 L (.int 0 :: st) h := tm_r_iconst (k := 0) (by decide +kernel) rfl (by decide)
theorem dd_R_size_13 : decode (tm_cc M_R_size) 13 = .ok (.invokevirtual 53, 3) := by decide +kernel
theorem ws_R_size_13 : tm_s M_R_size d u0 Q u S n 13 L st h = tm_T M_R_size d u0 Q u 13 L st h := tm_r_invv dd_R_size_13
theorem ws_R_size_16 : tm_s M_R_size d u0 Q u S n 16 L st h = tm_p1 st (fun x r => (x = 0 → tm_w M_R_size d u0 Q u S n 23 L r h) ∧ (¬ x = 0 → tm_w M_R_size d u0 Q u S n 19 L r h)) := tm_r_ifeq (off := 7) (by decide +kernel) rfl rfl
theorem ws_R_size_19 : tm_s M_R_size d u0 Q u S n 19 L st h = tm_w M_R_size d u0 Q u S n 20 L (.int 0 :: st) h := tm_r_iconst (k := 0) (by decide +kernel) rfl (by decide)
theorem ws_R_size_20 : tm_s M_R_size d u0 Q u S n 20 L st h = tm_w M_R_size d u0 Q u S n 29 L st h := tm_r_goto (off := 9) (by decide +kernel) rfl
theorem ws_R_size_23 : tm_s M_R_size d u0 Q u S n 23 L st h = tm_gA L 0 (fun x => tm_w M_R_size d u0 Q u S n 24 L (.ref x :: st) h) := tm_r_aload_n (i := 0) (by decide +kernel) rfl rfl
theorem ws_R_size_24 : tm_s M_R_size d u0 Q u S n 24 L st h = tm_pA st (fun a r => tm_cO (h a) 5 (fun fs => tm_fv fs 1 (fun v => tm_w M_R_size d u0 Q u S n 27 L (v :: r) h))) := tm_r_getf (i := 7) (by decide +kernel) rfl (by decide +kernel)
theorem ws_R_size_27 : tm_s M_R_size d u0 Q u S n 27 L st h = tm_gI L 1 (fun x => tm_w M_R_size d u0 Q u S n 28 L (.int x :: st) h) := tm_r_iload_n (i := 1) (by decide +kernel) rfl rfl
theorem ws_R_size_28 : tm_s M_R_size d u0 Q u S n 28 L st h = tm_p1 st (fun i r => tm_pA r (fun a r => tm_cI (h a) (fun k f => vp_in i k ∧ tm_w M_R_size d u0 Q u S n 29 L (.int (f i.toNatClampNeg) :: r) h))) := tm_r_iaload (by decide +kernel) rfl
theorem ws_R_size_29 : tm_s M_R_size d u0 Q u S n 29 L st h = tm_p1 st (fun x r => r = [] ∧ Q (.inl (some (.int x))) h) := tm_r_iret (by decide +kernel) rfl
theorem ws_R_beside_0 : tm_s M_R_beside d u0 Q u S n 0 L st h = tm_gA L 0 (fun x => tm_w M_R_beside d u0 Q u S n 1 L (.ref x :: st) h) := tm_r_aload_n (i := 0) (by decide +kernel) rfl rfl
theorem ws_R_beside_1 : tm_s M_R_beside d u0 Q u S n 1 L st h = tm_gA L 0 (fun x => tm_w M_R_beside d u0 Q u S n 2 L (.ref x :: st) h) := tm_r_aload_n (i := 0) (by decide +kernel) rfl rfl
theorem ws_R_beside_2 : tm_s M_R_beside d u0 Q u S n 2 L st h = tm_gI L 1 (fun x => tm_w M_R_beside d u0 Q u S n 3 L (.int x :: st) h) := tm_r_iload_n (i := 1) (by decide +kernel) rfl rfl
theorem ws_R_beside_3 : tm_s M_R_beside d u0 Q u S n 3 L st h = tm_gI L 2 (fun x => tm_w M_R_beside d u0 Q u S n 4 L (.int x :: st) h) := tm_r_iload_n (i := 2) (by decide +kernel) rfl rfl
theorem dd_R_beside_4 : decode (tm_cc M_R_beside) 4 = .ok (.invokevirtual 60, 3) := by decide +kernel
theorem ws_R_beside_4 : tm_s M_R_beside d u0 Q u S n 4 L st h = tm_T M_R_beside d u0 Q u 4 L st h := tm_r_invv dd_R_beside_4
theorem ws_R_beside_7 : tm_s M_R_beside d u0 Q u S n 7 L st h = tm_p1 st (fun x r => (x = 0 → tm_w M_R_beside d u0 Q u S n 14 L r h) ∧ (¬ x = 0 → tm_w M_R_beside d u0 Q u S n 10 L r h)) := tm_r_ifeq (off := 7) (by decide +kernel) rfl rfl
theorem ws_R_beside_10 : tm_s M_R_beside d u0 Q u S n 10 L st h = tm_w M_R_beside d u0 Q u S n 11 L (.int 1 :: st) h := tm_r_iconst (k := 1) (by decide +kernel) rfl (by decide)
theorem ws_R_beside_11 : tm_s M_R_beside d u0 Q u S n 11 L st h = tm_w M_R_beside d u0 Q u S n 15 L st h := tm_r_goto (off := 4) (by decide +kernel) rfl
theorem ws_R_beside_14 : tm_s M_R_beside d u0 Q u S n 14 L st h = tm_w M_R_beside d u0 Q u S n 15 L (.int 0 :: st) h := tm_r_iconst (k := 0) (by decide +kernel) rfl (by decide)
theorem dd_R_beside_15 : decode (tm_cc M_R_beside) 15 = .ok (.invokevirtual 53, 3) := by decide +kernel
theorem ws_R_beside_15 : tm_s M_R_beside d u0 Q u S n 15 L st h = tm_T M_R_beside d u0 Q u 15 L st h := tm_r_invv dd_R_beside_15
theorem ws_R_beside_18 : tm_s M_R_beside d u0 Q u S n 18 L st h = tm_p1 st (fun x r => (x = 0 → tm_w M_R_beside d u0 Q u S n 23 L r h) ∧ (¬ x = 0 → tm_w M_R_beside d u0 Q u S n 21 L r h)) := tm_r_ifeq (off := 5) (by decide +kernel) rfl rfl
theorem ws_R_beside_21 : tm_s M_R_beside d u0 Q u S n 21 L st h = tm_w M_R_beside d u0 Q u S n 22 L (.int 0 :: st) h := tm_r_iconst (k := 0) (by decide +kernel) rfl (by decide)
theorem ws_R_beside_22 : tm_s M_R_beside d u0 Q u S n 22 L st h = tm_p1 st (fun x r => r = [] ∧ Q (.inl (some (.int x))) h) := tm_r_iret (by decide +kernel) rfl
theorem ws_R_beside_23 : tm_s M_R_beside d u0 Q u S n 23 L st h = tm_w M_R_beside d u0 Q u S n 24 L (.int 0 :: st) h := tm_r_iconst (k := 0) (by decide +kernel) rfl (by decide)
theorem ws_R_beside_24 : tm_s M_R_beside d u0 Q u S n 24 L st h = tm_p1 st (fun x r => tm_w M_R_beside d u0 Q u S n 25 (L.set 3 (some (.int x))) r h) := tm_r_istore_n (i := 3) (by decide +kernel) rfl rfl (by decide)
theorem ws_R_beside_25 : tm_s M_R_beside d u0 Q u S n 25 L st h = tm_w M_R_beside d u0 Q u S n 26 L (.int 0 :: st) h := tm_r_iconst (k := 0) (by decide +kernel) rfl (by decide)
theorem ws_R_beside_26 : tm_s M_R_beside d u0 Q u S n 26 L st h = tm_p1 st (fun x r => tm_w M_R_beside d u0 Q u S n 28 (L.set 4 (some (.int x))) r h) := tm_r_istore (j := 4) (by decide +kernel) rfl (by decide)
theorem ws_R_beside_28 : tm_s M_R_beside d u0 Q u S n 28 L st h = tm_gI L 4 (fun x => tm_w M_R_beside d u0 Q u S n 30 L (.int x :: st) h) := tm_r_iload (j := 4) (by decide +kernel) rfl
theorem ws_R_beside_30 : tm_s M_R_beside d u0 Q u S n 30 L st h = tm_gA L 0 (fun x => tm_w M_R_beside d u0 Q u S n 31 L (.ref x :: st) h) := tm_r_aload_n (i := 0) (by decide +kernel) rfl rfl
theorem ws_R_beside_31 : tm_s M_R_beside d u0 Q u S n 31 L st h = tm_pA st (fun a r => tm_cO (h a) 5 (fun fs => tm_fv fs 1 (fun v => tm_w M_R_beside d u0 Q u S n 34 L (v :: r) h))) := tm_r_getf (i := 7) (by decide +kernel) rfl (by decide +kernel)
theorem ws_R_beside_34 : tm_s M_R_beside d u0 Q u S n 34 L st h = tm_gI L 1 (fun x => tm_w M_R_beside d u0 Q u S n 35 L (.int x :: st) h) := tm_r_iload_n (i := 1) (by decide +kernel) rfl rfl
theorem ws_R_beside_35 : tm_s M_R_beside d u0 Q u S n 35 L st h = tm_p1 st (fun i r => tm_pA r (fun a r => tm_cI (h a) (fun k f => vp_in i k ∧ tm_w M_R_beside d u0 Q u S n 36 L (.int (f i.toNatClampNeg) :: r) h))) := tm_r_iaload (by decide +kernel) rfl
theorem ws_R_beside_36 : tm_s M_R_beside d u0 Q u S n 36 L st h = tm_p1 st (fun y r => tm_p1 r (fun x r => (y ≤ x → tm_w M_R_beside d u0 Q u S n 67 L r h) ∧ (¬ y ≤ x → tm_w M_R_beside d u0 Q u S n 39 L r h))) := tm_r_icge (off := 31) (by decide +kernel) rfl rfl
theorem ws_R_beside_39 : tm_s M_R_beside d u0 Q u S n 39 L st h = tm_gA L 0 (fun x => tm_w M_R_beside d u0 Q u S n 40 L (.ref x :: st) h) := tm_r_aload_n (i := 0) (by decide +kernel) rfl rfl
theorem ws_R_beside_40 : tm_s M_R_beside d u0 Q u S n 40 L st h = tm_gI L 1 (fun x => tm_w M_R_beside d u0 Q u S n 41 L (.int x :: st) h) := tm_r_iload_n (i := 1) (by decide +kernel) rfl rfl
theorem ws_R_beside_41 : tm_s M_R_beside d u0 Q u S n 41 L st h = tm_gI L 2 (fun x => tm_w M_R_beside d u0 Q u S n 42 L (.int x :: st) h) := tm_r_iload_n (i := 2) (by decide +kernel) rfl rfl
theorem ws_R_beside_42 : tm_s M_R_beside d u0 Q u S n 42 L st h = tm_gI L 4 (fun x => tm_w M_R_beside d u0 Q u S n 44 L (.int x :: st) h) := tm_r_iload (j := 4) (by decide +kernel) rfl
theorem dd_R_beside_44 : decode (tm_cc M_R_beside) 44 = .ok (.invokevirtual 49, 3) := by decide +kernel
theorem ws_R_beside_44 : tm_s M_R_beside d u0 Q u S n 44 L st h = tm_T M_R_beside d u0 Q u 44 L st h := tm_r_invv dd_R_beside_44
theorem ws_R_beside_47 : tm_s M_R_beside d u0 Q u S n 47 L st h = tm_p1 st (fun x r => (x = 0 → tm_w M_R_beside d u0 Q u S n 59 L r h) ∧ (¬ x = 0 → tm_w M_R_beside d u0 Q u S n 50 L r h)) := tm_r_ifeq (off := 12) (by decide +kernel) rfl rfl
theorem ws_R_beside_50 : tm_s M_R_beside d u0 Q u S n 50 L st h = tm_gI L 3 (fun x => tm_w M_R_beside d u0 Q u S n 51 L (.int x :: st) h) := tm_r_iload_n (i := 3) (by decide +kernel) rfl rfl
theorem ws_R_beside_51 : tm_s M_R_beside d u0 Q u S n 51 L st h = tm_w M_R_beside d u0 Q u S n 52 L (.int 1 :: st) h := tm_r_iconst (k := 1) (by decide +kernel) rfl (by decide)
theorem ws_R_beside_52 : tm_s M_R_beside d u0 Q u S n 52 L st h = tm_gI L 4 (fun x => tm_w M_R_beside d u0 Q u S n 54 L (.int x :: st) h) := tm_r_iload (j := 4) (by decide +kernel) rfl
theorem ws_R_beside_54 : tm_s M_R_beside d u0 Q u S n 54 L st h = tm_p1 st (fun y r => tm_p1 r (fun x r => tm_w M_R_beside d u0 Q u S n 55 L (.int (x <<< (y &&& 31)) :: r) h)) := tm_r_ishl (by decide +kernel) rfl
theorem ws_R_beside_55 : tm_s M_R_beside d u0 Q u S n 55 L st h = tm_p1 st (fun y r => tm_p1 r (fun x r => tm_w M_R_beside d u0 Q u S n 56 L (.int (x ||| y) :: r) h)) := tm_r_ior (by decide +kernel) rfl
theorem ws_R_beside_56 : tm_s M_R_beside d u0 Q u S n 56 L st h = tm_w M_R_beside d u0 Q u S n 60 L st h := tm_r_goto (off := 4) (by decide +kernel) rfl
theorem ws_R_beside_59 : tm_s M_R_beside d u0 Q u S n 59 L st h = tm_gI L 3 (fun x => tm_w M_R_beside d u0 Q u S n 60 L (.int x :: st) h) := tm_r_iload_n (i := 3) (by decide +kernel) rfl rfl
theorem ws_R_beside_60 : tm_s M_R_beside d u0 Q u S n 60 L st h = tm_p1 st (fun x r => tm_w M_R_beside d u0 Q u S n 61 (L.set 3 (some (.int x))) r h) := tm_r_istore_n (i := 3) (by decide +kernel) rfl rfl (by decide)
theorem ws_R_beside_61 : tm_s M_R_beside d u0 Q u S n 61 L st h = tm_gI L 4 (fun x => tm_w M_R_beside d u0 Q u S n 64 (L.set 4 (some (.int (x + 1)))) st h) := tm_r_iinc (j := 4) (k := 1) (by decide +kernel) rfl (by decide) (by decide)
theorem ws_R_beside_64 : tm_s M_R_beside d u0 Q u S n 64 L st h = tm_w M_R_beside d u0 Q u S n 28 L st h := tm_r_goto (off := (-36)) (by decide +kernel) rfl
theorem ws_R_beside_67 : tm_s M_R_beside d u0 Q u S n 67 L st h = tm_gI L 3 (fun x => tm_w M_R_beside d u0 Q u S n 68 L (.int x :: st) h) := tm_r_iload_n (i := 3) (by decide +kernel) rfl rfl
theorem ws_R_beside_68 : tm_s M_R_beside d u0 Q u S n 68 L st h = tm_p1 st (fun x r => r = [] ∧ Q (.inl (some (.int x))) h) := tm_r_iret (by decide +kernel) rfl
theorem ws_R_name_0 : tm_s M_R_name d u0 Q u S n 0 L st h = tm_gA L 0 (fun x => tm_w M_R_name d u0 Q u S n 1 L (.ref x :: st) h) := tm_r_aload_n (i := 0) (by decide +kernel) rfl rfl
theorem ws_R_name_1 : tm_s M_R_name d u0 Q u S n 1 L st h = tm_gI L 1 (fun x => tm_w M_R_name d u0 Q u S n 2 L (.int x :: st) h) := tm_r_iload_n (i := 1) (by decide +kernel) rfl rfl
theorem dd_R_name_2 : decode (tm_cc M_R_name) 2 = .ok (.invokestatic 45, 3) := by decide +kernel
theorem ws_R_name_2 : tm_s M_R_name d u0 Q u S n 2 L st h = tm_T M_R_name d u0 Q u 2 L st h := tm_r_invs dd_R_name_2
theorem ws_R_name_5 : tm_s M_R_name d u0 Q u S n 5 L st h = tm_p1 st (fun x r => (x = 0 → tm_w M_R_name d u0 Q u S n 12 L r h) ∧ (¬ x = 0 → tm_w M_R_name d u0 Q u S n 8 L r h)) := tm_r_ifeq (off := 7) (by decide +kernel) rfl rfl
theorem ws_R_name_8 : tm_s M_R_name d u0 Q u S n 8 L st h = tm_w M_R_name d u0 Q u S n 9 L (.int 1 :: st) h := tm_r_iconst (k := 1) (by decide +kernel) rfl (by decide)
theorem ws_R_name_9 : tm_s M_R_name d u0 Q u S n 9 L st h = tm_w M_R_name d u0 Q u S n 13 L st h := tm_r_goto (off := 4) (by decide +kernel) rfl
theorem ws_R_name_12 : tm_s M_R_name d u0 Q u S n 12 L st h = tm_w M_R_name d u0 Q u S n 13 L (.int 0 :: st) h := tm_r_iconst (k := 0) (by decide +kernel) rfl (by decide)
theorem dd_R_name_13 : decode (tm_cc M_R_name) 13 = .ok (.invokevirtual 53, 3) := by decide +kernel
theorem ws_R_name_13 : tm_s M_R_name d u0 Q u S n 13 L st h = tm_T M_R_name d u0 Q u 13 L st h := tm_r_invv dd_R_name_13
theorem ws_R_name_16 : tm_s M_R_name d u0 Q u S n 16 L st h = tm_p1 st (fun x r => (x = 0 → tm_w M_R_name d u0 Q u S n 21 L r h) ∧ (¬ x = 0 → tm_w M_R_name d u0 Q u S n 19 L r h)) := tm_r_ifeq (off := 5) (by decide +kernel) rfl rfl
theorem ws_R_name_19 : tm_s M_R_name d u0 Q u S n 19 L st h = tm_w M_R_name d u0 Q u S n 20 L (.int 0 :: st) h := tm_r_iconst (k := 0) (by decide +kernel) rfl (by decide)
theorem ws_R_name_20 : tm_s M_R_name d u0 Q u S n 20 L st h = tm_p1 st (fun x r => r = [] ∧ Q (.inl (some (.int x))) h) := tm_r_iret (by decide +kernel) rfl
theorem ws_R_name_21 : tm_s M_R_name d u0 Q u S n 21 L st h = tm_gA L 0 (fun x => tm_w M_R_name d u0 Q u S n 22 L (.ref x :: st) h) := tm_r_aload_n (i := 0) (by decide +kernel) rfl rfl
theorem ws_R_name_22 : tm_s M_R_name d u0 Q u S n 22 L st h = tm_gI L 1 (fun x => tm_w M_R_name d u0 Q u S n 23 L (.int x :: st) h) := tm_r_iload_n (i := 1) (by decide +kernel) rfl rfl
theorem dd_R_name_23 : decode (tm_cc M_R_name) 23 = .ok (.invokevirtual 72, 3) := by decide +kernel
theorem ws_R_name_23 : tm_s M_R_name d u0 Q u S n 23 L st h = tm_T M_R_name d u0 Q u 23 L st h := tm_r_invv dd_R_name_23
theorem ws_R_name_26 : tm_s M_R_name d u0 Q u S n 26 L st h = tm_gA L 0 (fun x => tm_w M_R_name d u0 Q u S n 27 L (.ref x :: st) h) := tm_r_aload_n (i := 0) (by decide +kernel) rfl rfl
theorem ws_R_name_27 : tm_s M_R_name d u0 Q u S n 27 L st h = tm_pA st (fun a r => tm_cO (h a) 5 (fun fs => tm_fv fs 6 (fun v => tm_w M_R_name d u0 Q u S n 30 L (v :: r) h))) := tm_r_getf (i := 83) (by decide +kernel) rfl (by decide +kernel)
theorem ws_R_name_30 : tm_s M_R_name d u0 Q u S n 30 L st h = tm_p1 st (fun x r => r = [] ∧ Q (.inl (some (.int x))) h) := tm_r_iret (by decide +kernel) rfl
theorem ws_R_placeOf_0 : tm_s M_R_placeOf d u0 Q u S n 0 L st h = tm_w M_R_placeOf d u0 Q u S n 1 L (.int 0 :: st) h := tm_r_iconst (k := 0) (by decide +kernel) rfl (by decide)
theorem ws_R_placeOf_1 : tm_s M_R_placeOf d u0 Q u S n 1 L st h = tm_p1 st (fun x r => tm_w M_R_placeOf d u0 Q u S n 2 (L.set 2 (some (.int x))) r h) := tm_r_istore_n (i := 2) (by decide +kernel) rfl rfl (by decide)
theorem ws_R_placeOf_2 : tm_s M_R_placeOf d u0 Q u S n 2 L st h = tm_gA L 0 (fun x => tm_w M_R_placeOf d u0 Q u S n 3 L (.ref x :: st) h) := tm_r_aload_n (i := 0) (by decide +kernel) rfl rfl
theorem ws_R_placeOf_3 : tm_s M_R_placeOf d u0 Q u S n 3 L st h = tm_pA st (fun a r => tm_cO (h a) 5 (fun fs => tm_fv fs 5 (fun v => tm_w M_R_placeOf d u0 Q u S n 6 L (v :: r) h))) := tm_r_getf (i := 23) (by decide +kernel) rfl (by decide +kernel)
theorem ws_R_placeOf_6 : tm_s M_R_placeOf d u0 Q u S n 6 L st h = tm_gI L 2 (fun x => tm_w M_R_placeOf d u0 Q u S n 7 L (.int x :: st) h) := tm_r_iload_n (i := 2) (by decide +kernel) rfl rfl
theorem ws_R_placeOf_7 : tm_s M_R_placeOf d u0 Q u S n 7 L st h = tm_p1 st (fun i r => tm_pA r (fun a r => tm_cI (h a) (fun k f => vp_in i k ∧ tm_w M_R_placeOf d u0 Q u S n 8 L (.int (f i.toNatClampNeg) :: r) h))) := tm_r_iaload (by decide +kernel) rfl
theorem ws_R_placeOf_8 : tm_s M_R_placeOf d u0 Q u S n 8 L st h = tm_gI L 1 (fun x => tm_w M_R_placeOf d u0 Q u S n 9 L (.int x :: st) h) := tm_r_iload_n (i := 1) (by decide +kernel) rfl rfl
theorem ws_R_placeOf_9 : tm_s M_R_placeOf d u0 Q u S n 9 L st h = tm_p1 st (fun y r => tm_p1 r (fun x r => (x = y → tm_w M_R_placeOf d u0 Q u S n 18 L r h) ∧ (¬ x = y → tm_w M_R_placeOf d u0 Q u S n 12 L r h))) := tm_r_iceq (off := 9) (by decide +kernel) rfl rfl
theorem ws_R_placeOf_12 : tm_s M_R_placeOf d u0 Q u S n 12 L st h = tm_gI L 2 (fun x => tm_w M_R_placeOf d u0 Q u S n 15 (L.set 2 (some (.int (x + 1)))) st h) := tm_r_iinc (j := 2) (k := 1) (by decide +kernel) rfl (by decide) (by decide)
theorem ws_R_placeOf_15 : tm_s M_R_placeOf d u0 Q u S n 15 L st h = tm_w M_R_placeOf d u0 Q u S n 2 L st h := tm_r_goto (off := (-13)) (by decide +kernel) rfl
theorem ws_R_placeOf_18 : tm_s M_R_placeOf d u0 Q u S n 18 L st h = tm_gI L 2 (fun x => tm_w M_R_placeOf d u0 Q u S n 19 L (.int x :: st) h) := tm_r_iload_n (i := 2) (by decide +kernel) rfl rfl
theorem ws_R_placeOf_19 : tm_s M_R_placeOf d u0 Q u S n 19 L st h = tm_p1 st (fun x r => r = [] ∧ Q (.inl (some (.int x))) h) := tm_r_iret (by decide +kernel) rfl
theorem ws_R_place_0 : tm_s M_R_place d u0 Q u S n 0 L st h = tm_gA L 0 (fun x => tm_w M_R_place d u0 Q u S n 1 L (.ref x :: st) h) := tm_r_aload_n (i := 0) (by decide +kernel) rfl rfl
theorem ws_R_place_1 : tm_s M_R_place d u0 Q u S n 1 L st h = tm_gA L 0 (fun x => tm_w M_R_place d u0 Q u S n 2 L (.ref x :: st) h) := tm_r_aload_n (i := 0) (by decide +kernel) rfl rfl
theorem ws_R_place_2 : tm_s M_R_place d u0 Q u S n 2 L st h = tm_gI L 1 (fun x => tm_w M_R_place d u0 Q u S n 3 L (.int x :: st) h) := tm_r_iload_n (i := 1) (by decide +kernel) rfl rfl
theorem ws_R_place_3 : tm_s M_R_place d u0 Q u S n 3 L st h = tm_gI L 2 (fun x => tm_w M_R_place d u0 Q u S n 4 L (.int x :: st) h) := tm_r_iload_n (i := 2) (by decide +kernel) rfl rfl
theorem dd_R_place_4 : decode (tm_cc M_R_place) 4 = .ok (.invokevirtual 60, 3) := by decide +kernel
theorem ws_R_place_4 : tm_s M_R_place d u0 Q u S n 4 L st h = tm_T M_R_place d u0 Q u 4 L st h := tm_r_invv dd_R_place_4
theorem ws_R_place_7 : tm_s M_R_place d u0 Q u S n 7 L st h = tm_p1 st (fun x r => (x = 0 → tm_w M_R_place d u0 Q u S n 14 L r h) ∧ (¬ x = 0 → tm_w M_R_place d u0 Q u S n 10 L r h)) := tm_r_ifeq (off := 7) (by decide +kernel) rfl rfl
theorem ws_R_place_10 : tm_s M_R_place d u0 Q u S n 10 L st h = tm_w M_R_place d u0 Q u S n 11 L (.int 1 :: st) h := tm_r_iconst (k := 1) (by decide +kernel) rfl (by decide)
theorem ws_R_place_11 : tm_s M_R_place d u0 Q u S n 11 L st h = tm_w M_R_place d u0 Q u S n 15 L st h := tm_r_goto (off := 4) (by decide +kernel) rfl
theorem ws_R_place_14 : tm_s M_R_place d u0 Q u S n 14 L st h = tm_w M_R_place d u0 Q u S n 15 L (.int 0 :: st) h := tm_r_iconst (k := 0) (by decide +kernel) rfl (by decide)
theorem dd_R_place_15 : decode (tm_cc M_R_place) 15 = .ok (.invokevirtual 53, 3) := by decide +kernel
theorem ws_R_place_15 : tm_s M_R_place d u0 Q u S n 15 L st h = tm_T M_R_place d u0 Q u 15 L st h := tm_r_invv dd_R_place_15
theorem ws_R_place_18 : tm_s M_R_place d u0 Q u S n 18 L st h = tm_p1 st (fun x r => (x = 0 → tm_w M_R_place d u0 Q u S n 23 L r h) ∧ (¬ x = 0 → tm_w M_R_place d u0 Q u S n 21 L r h)) := tm_r_ifeq (off := 5) (by decide +kernel) rfl rfl
theorem ws_R_place_21 : tm_s M_R_place d u0 Q u S n 21 L st h = tm_w M_R_place d u0 Q u S n 22 L (.int 0 :: st) h := tm_r_iconst (k := 0) (by decide +kernel) rfl (by decide)
theorem ws_R_place_22 : tm_s M_R_place d u0 Q u S n 22 L st h = tm_p1 st (fun x r => r = [] ∧ Q (.inl (some (.int x))) h) := tm_r_iret (by decide +kernel) rfl
theorem ws_R_place_23 : tm_s M_R_place d u0 Q u S n 23 L st h = tm_gA L 0 (fun x => tm_w M_R_place d u0 Q u S n 24 L (.ref x :: st) h) := tm_r_aload_n (i := 0) (by decide +kernel) rfl rfl
theorem ws_R_place_24 : tm_s M_R_place d u0 Q u S n 24 L st h = tm_gI L 1 (fun x => tm_w M_R_place d u0 Q u S n 25 L (.int x :: st) h) := tm_r_iload_n (i := 1) (by decide +kernel) rfl rfl
theorem dd_R_place_25 : decode (tm_cc M_R_place) 25 = .ok (.invokevirtual 72, 3) := by decide +kernel
theorem ws_R_place_25 : tm_s M_R_place d u0 Q u S n 25 L st h = tm_T M_R_place d u0 Q u 25 L st h := tm_r_invv dd_R_place_25
theorem ws_R_place_28 : tm_s M_R_place d u0 Q u S n 28 L st h = tm_gA L 0 (fun x => tm_w M_R_place d u0 Q u S n 29 L (.ref x :: st) h) := tm_r_aload_n (i := 0) (by decide +kernel) rfl rfl
theorem ws_R_place_29 : tm_s M_R_place d u0 Q u S n 29 L st h = tm_gI L 2 (fun x => tm_w M_R_place d u0 Q u S n 30 L (.int x :: st) h) := tm_r_iload_n (i := 2) (by decide +kernel) rfl rfl
theorem dd_R_place_30 : decode (tm_cc M_R_place) 30 = .ok (.invokevirtual 108, 3) := by decide +kernel
theorem ws_R_place_30 : tm_s M_R_place d u0 Q u S n 30 L st h = tm_T M_R_place d u0 Q u 30 L st h := tm_r_invv dd_R_place_30
theorem ws_R_place_33 : tm_s M_R_place d u0 Q u S n 33 L st h = tm_p1 st (fun x r => r = [] ∧ Q (.inl (some (.int x))) h) := tm_r_iret (by decide +kernel) rfl
theorem ws_R_automorphisms_0 : tm_s M_R_automorphisms d u0 Q u S n 0 L st h = tm_gA L 0 (fun x => tm_w M_R_automorphisms d u0 Q u S n 1 L (.ref x :: st) h) := tm_r_aload_n (i := 0) (by decide +kernel) rfl rfl
theorem ws_R_automorphisms_1 : tm_s M_R_automorphisms d u0 Q u S n 1 L st h = tm_gI L 1 (fun x => tm_w M_R_automorphisms d u0 Q u S n 2 L (.int x :: st) h) := tm_r_iload_n (i := 1) (by decide +kernel) rfl rfl
theorem dd_R_automorphisms_2 : decode (tm_cc M_R_automorphisms) 2 = .ok (.invokestatic 45, 3) := by decide +kernel
theorem ws_R_automorphisms_2 : tm_s M_R_automorphisms d u0 Q u S n 2 L st h = tm_T M_R_automorphisms d u0 Q u 2 L st h := tm_r_invs dd_R_automorphisms_2
theorem ws_R_automorphisms_5 : tm_s M_R_automorphisms d u0 Q u S n 5 L st h = tm_p1 st (fun x r => (x = 0 → tm_w M_R_automorphisms d u0 Q u S n 12 L r h) ∧ (¬ x = 0 → tm_w M_R_automorphisms d u0 Q u S n 8 L r h)) := tm_r_ifeq (off := 7) (by decide +kernel) rfl rfl
theorem ws_R_automorphisms_8 : tm_s M_R_automorphisms d u0 Q u S n 8 L st h = tm_w M_R_automorphisms d u0 Q u S n 9 L (.int 1 :: st) h := tm_r_iconst (k := 1) (by decide +kernel) rfl (by decide)
theorem ws_R_automorphisms_9 : tm_s M_R_automorphisms d u0 Q u S n 9 L st h = tm_w M_R_automorphisms d u0 Q u S n 13 L st h := tm_r_goto (off := 4) (by decide +kernel) rfl
theorem ws_R_automorphisms_12 : tm_s M_R_automorphisms d u0 Q u S n 12 L st h = tm_w M_R_automorphisms d u0 Q u S n 13 L (.int 0 :: st) h := tm_r_iconst (k := 0) (by decide +kernel) rfl (by decide)
theorem dd_R_automorphisms_13 : decode (tm_cc M_R_automorphisms) 13 = .ok (.invokevirtual 53, 3) := by decide +kernel
theorem ws_R_automorphisms_13 : tm_s M_R_automorphisms d u0 Q u S n 13 L st h = tm_T M_R_automorphisms d u0 Q u 13 L st h := tm_r_invv dd_R_automorphisms_13
theorem ws_R_automorphisms_16 : tm_s M_R_automorphisms d u0 Q u S n 16 L st h = tm_p1 st (fun x r => (x = 0 → tm_w M_R_automorphisms d u0 Q u S n 23 L r h) ∧ (¬ x = 0 → tm_w M_R_automorphisms d u0 Q u S n 19 L r h)) := tm_r_ifeq (off := 7) (by decide +kernel) rfl rfl
theorem ws_R_automorphisms_19 : tm_s M_R_automorphisms d u0 Q u S n 19 L st h = tm_w M_R_automorphisms d u0 Q u S n 20 L (.int 0 :: st) h := tm_r_iconst (k := 0) (by decide +kernel) rfl (by decide)
theorem ws_R_automorphisms_20 : tm_s M_R_automorphisms d u0 Q u S n 20 L st h = tm_w M_R_automorphisms d u0 Q u S n 31 L st h := tm_r_goto (off := 11) (by decide +kernel) rfl
theorem ws_R_automorphisms_23 : tm_s M_R_automorphisms d u0 Q u S n 23 L st h = tm_gA L 0 (fun x => tm_w M_R_automorphisms d u0 Q u S n 24 L (.ref x :: st) h) := tm_r_aload_n (i := 0) (by decide +kernel) rfl rfl
theorem ws_R_automorphisms_24 : tm_s M_R_automorphisms d u0 Q u S n 24 L st h = tm_gI L 1 (fun x => tm_w M_R_automorphisms d u0 Q u S n 25 L (.int x :: st) h) := tm_r_iload_n (i := 1) (by decide +kernel) rfl rfl
theorem ws_R_automorphisms_25 : tm_s M_R_automorphisms d u0 Q u S n 25 L st h = tm_w M_R_automorphisms d u0 Q u S n 26 L (.int 0 :: st) h := tm_r_iconst (k := 0) (by decide +kernel) rfl (by decide)
theorem ws_R_automorphisms_26 : tm_s M_R_automorphisms d u0 Q u S n 26 L st h = tm_w M_R_automorphisms d u0 Q u S n 27 L (.int (-1) :: st) h := tm_r_iconst (k := (-1)) (by decide +kernel) rfl (by decide)
theorem ws_R_automorphisms_27 : tm_s M_R_automorphisms d u0 Q u S n 27 L st h = tm_w M_R_automorphisms d u0 Q u S n 28 L (.int 0 :: st) h := tm_r_iconst (k := 0) (by decide +kernel) rfl (by decide)
theorem dd_R_automorphisms_28 : decode (tm_cc M_R_automorphisms) 28 = .ok (.invokevirtual 111, 3) := by decide +kernel
theorem ws_R_automorphisms_28 : tm_s M_R_automorphisms d u0 Q u S n 28 L st h = tm_T M_R_automorphisms d u0 Q u 28 L st h := tm_r_invv dd_R_automorphisms_28
theorem ws_R_automorphisms_31 : tm_s M_R_automorphisms d u0 Q u S n 31 L st h = tm_p1 st (fun x r => r = [] ∧ Q (.inl (some (.int x))) h) := tm_r_iret (by decide +kernel) rfl
theorem ws_R_fixing_0 : tm_s M_R_fixing d u0 Q u S n 0 L st h = tm_gA L 0 (fun x => tm_w M_R_fixing d u0 Q u S n 1 L (.ref x :: st) h) := tm_r_aload_n (i := 0) (by decide +kernel) rfl rfl
theorem ws_R_fixing_1 : tm_s M_R_fixing d u0 Q u S n 1 L st h = tm_gA L 0 (fun x => tm_w M_R_fixing d u0 Q u S n 2 L (.ref x :: st) h) := tm_r_aload_n (i := 0) (by decide +kernel) rfl rfl
theorem ws_R_fixing_2 : tm_s M_R_fixing d u0 Q u S n 2 L st h = tm_gI L 1 (fun x => tm_w M_R_fixing d u0 Q u S n 3 L (.int x :: st) h) := tm_r_iload_n (i := 1) (by decide +kernel) rfl rfl
theorem ws_R_fixing_3 : tm_s M_R_fixing d u0 Q u S n 3 L st h = tm_gI L 2 (fun x => tm_w M_R_fixing d u0 Q u S n 4 L (.int x :: st) h) := tm_r_iload_n (i := 2) (by decide +kernel) rfl rfl
theorem dd_R_fixing_4 : decode (tm_cc M_R_fixing) 4 = .ok (.invokevirtual 115, 3) := by decide +kernel
theorem ws_R_fixing_4 : tm_s M_R_fixing d u0 Q u S n 4 L st h = tm_T M_R_fixing d u0 Q u 4 L st h := tm_r_invv dd_R_fixing_4
theorem ws_R_fixing_7 : tm_s M_R_fixing d u0 Q u S n 7 L st h = tm_p1 st (fun x r => (x = 0 → tm_w M_R_fixing d u0 Q u S n 14 L r h) ∧ (¬ x = 0 → tm_w M_R_fixing d u0 Q u S n 10 L r h)) := tm_r_ifeq (off := 7) (by decide +kernel) rfl rfl
theorem ws_R_fixing_10 : tm_s M_R_fixing d u0 Q u S n 10 L st h = tm_w M_R_fixing d u0 Q u S n 11 L (.int 1 :: st) h := tm_r_iconst (k := 1) (by decide +kernel) rfl (by decide)
theorem ws_R_fixing_11 : tm_s M_R_fixing d u0 Q u S n 11 L st h = tm_w M_R_fixing d u0 Q u S n 15 L st h := tm_r_goto (off := 4) (by decide +kernel) rfl
theorem ws_R_fixing_14 : tm_s M_R_fixing d u0 Q u S n 14 L st h = tm_w M_R_fixing d u0 Q u S n 15 L (.int 0 :: st) h := tm_r_iconst (k := 0) (by decide +kernel) rfl (by decide)
theorem dd_R_fixing_15 : decode (tm_cc M_R_fixing) 15 = .ok (.invokevirtual 53, 3) := by decide +kernel
theorem ws_R_fixing_15 : tm_s M_R_fixing d u0 Q u S n 15 L st h = tm_T M_R_fixing d u0 Q u 15 L st h := tm_r_invv dd_R_fixing_15
theorem ws_R_fixing_18 : tm_s M_R_fixing d u0 Q u S n 18 L st h = tm_p1 st (fun x r => (x = 0 → tm_w M_R_fixing d u0 Q u S n 25 L r h) ∧ (¬ x = 0 → tm_w M_R_fixing d u0 Q u S n 21 L r h)) := tm_r_ifeq (off := 7) (by decide +kernel) rfl rfl
theorem ws_R_fixing_21 : tm_s M_R_fixing d u0 Q u S n 21 L st h = tm_w M_R_fixing d u0 Q u S n 22 L (.int 0 :: st) h := tm_r_iconst (k := 0) (by decide +kernel) rfl (by decide)
theorem ws_R_fixing_22 : tm_s M_R_fixing d u0 Q u S n 22 L st h = tm_w M_R_fixing d u0 Q u S n 33 L st h := tm_r_goto (off := 11) (by decide +kernel) rfl
theorem ws_R_fixing_25 : tm_s M_R_fixing d u0 Q u S n 25 L st h = tm_gA L 0 (fun x => tm_w M_R_fixing d u0 Q u S n 26 L (.ref x :: st) h) := tm_r_aload_n (i := 0) (by decide +kernel) rfl rfl
theorem ws_R_fixing_26 : tm_s M_R_fixing d u0 Q u S n 26 L st h = tm_gI L 1 (fun x => tm_w M_R_fixing d u0 Q u S n 27 L (.int x :: st) h) := tm_r_iload_n (i := 1) (by decide +kernel) rfl rfl
theorem ws_R_fixing_27 : tm_s M_R_fixing d u0 Q u S n 27 L st h = tm_gI L 2 (fun x => tm_w M_R_fixing d u0 Q u S n 28 L (.int x :: st) h) := tm_r_iload_n (i := 2) (by decide +kernel) rfl rfl
theorem ws_R_fixing_28 : tm_s M_R_fixing d u0 Q u S n 28 L st h = tm_w M_R_fixing d u0 Q u S n 29 L (.int (-1) :: st) h := tm_r_iconst (k := (-1)) (by decide +kernel) rfl (by decide)
theorem ws_R_fixing_29 : tm_s M_R_fixing d u0 Q u S n 29 L st h = tm_w M_R_fixing d u0 Q u S n 30 L (.int 0 :: st) h := tm_r_iconst (k := 0) (by decide +kernel) rfl (by decide)
theorem dd_R_fixing_30 : decode (tm_cc M_R_fixing) 30 = .ok (.invokevirtual 111, 3) := by decide +kernel
theorem ws_R_fixing_30 : tm_s M_R_fixing d u0 Q u S n 30 L st h = tm_T M_R_fixing d u0 Q u 30 L st h := tm_r_invv dd_R_fixing_30
theorem ws_R_fixing_33 : tm_s M_R_fixing d u0 Q u S n 33 L st h = tm_p1 st (fun x r => r = [] ∧ Q (.inl (some (.int x))) h) := tm_r_iret (by decide +kernel) rfl
theorem ws_R_orbit_0 : tm_s M_R_orbit d u0 Q u S n 0 L st h = tm_gA L 0 (fun x => tm_w M_R_orbit d u0 Q u S n 1 L (.ref x :: st) h) := tm_r_aload_n (i := 0) (by decide +kernel) rfl rfl
theorem ws_R_orbit_1 : tm_s M_R_orbit d u0 Q u S n 1 L st h = tm_gA L 0 (fun x => tm_w M_R_orbit d u0 Q u S n 2 L (.ref x :: st) h) := tm_r_aload_n (i := 0) (by decide +kernel) rfl rfl
theorem ws_R_orbit_2 : tm_s M_R_orbit d u0 Q u S n 2 L st h = tm_gI L 1 (fun x => tm_w M_R_orbit d u0 Q u S n 3 L (.int x :: st) h) := tm_r_iload_n (i := 1) (by decide +kernel) rfl rfl
theorem ws_R_orbit_3 : tm_s M_R_orbit d u0 Q u S n 3 L st h = tm_gI L 2 (fun x => tm_w M_R_orbit d u0 Q u S n 4 L (.int x :: st) h) := tm_r_iload_n (i := 2) (by decide +kernel) rfl rfl
theorem dd_R_orbit_4 : decode (tm_cc M_R_orbit) 4 = .ok (.invokevirtual 60, 3) := by decide +kernel
theorem ws_R_orbit_4 : tm_s M_R_orbit d u0 Q u S n 4 L st h = tm_T M_R_orbit d u0 Q u 4 L st h := tm_r_invv dd_R_orbit_4
theorem ws_R_orbit_7 : tm_s M_R_orbit d u0 Q u S n 7 L st h = tm_p1 st (fun x r => (x = 0 → tm_w M_R_orbit d u0 Q u S n 14 L r h) ∧ (¬ x = 0 → tm_w M_R_orbit d u0 Q u S n 10 L r h)) := tm_r_ifeq (off := 7) (by decide +kernel) rfl rfl
theorem ws_R_orbit_10 : tm_s M_R_orbit d u0 Q u S n 10 L st h = tm_w M_R_orbit d u0 Q u S n 11 L (.int 1 :: st) h := tm_r_iconst (k := 1) (by decide +kernel) rfl (by decide)
theorem ws_R_orbit_11 : tm_s M_R_orbit d u0 Q u S n 11 L st h = tm_w M_R_orbit d u0 Q u S n 15 L st h := tm_r_goto (off := 4) (by decide +kernel) rfl
theorem ws_R_orbit_14 : tm_s M_R_orbit d u0 Q u S n 14 L st h = tm_w M_R_orbit d u0 Q u S n 15 L (.int 0 :: st) h := tm_r_iconst (k := 0) (by decide +kernel) rfl (by decide)
theorem dd_R_orbit_15 : decode (tm_cc M_R_orbit) 15 = .ok (.invokevirtual 53, 3) := by decide +kernel
theorem ws_R_orbit_15 : tm_s M_R_orbit d u0 Q u S n 15 L st h = tm_T M_R_orbit d u0 Q u 15 L st h := tm_r_invv dd_R_orbit_15
theorem ws_R_orbit_18 : tm_s M_R_orbit d u0 Q u S n 18 L st h = tm_p1 st (fun x r => (x = 0 → tm_w M_R_orbit d u0 Q u S n 25 L r h) ∧ (¬ x = 0 → tm_w M_R_orbit d u0 Q u S n 21 L r h)) := tm_r_ifeq (off := 7) (by decide +kernel) rfl rfl
theorem ws_R_orbit_21 : tm_s M_R_orbit d u0 Q u S n 21 L st h = tm_w M_R_orbit d u0 Q u S n 22 L (.int 0 :: st) h := tm_r_iconst (k := 0) (by decide +kernel) rfl (by decide)
theorem ws_R_orbit_22 : tm_s M_R_orbit d u0 Q u S n 22 L st h = tm_w M_R_orbit d u0 Q u S n 31 L st h := tm_r_goto (off := 9) (by decide +kernel) rfl
theorem ws_R_orbit_25 : tm_s M_R_orbit d u0 Q u S n 25 L st h = tm_gA L 0 (fun x => tm_w M_R_orbit d u0 Q u S n 26 L (.ref x :: st) h) := tm_r_aload_n (i := 0) (by decide +kernel) rfl rfl
theorem ws_R_orbit_26 : tm_s M_R_orbit d u0 Q u S n 26 L st h = tm_gI L 1 (fun x => tm_w M_R_orbit d u0 Q u S n 27 L (.int x :: st) h) := tm_r_iload_n (i := 1) (by decide +kernel) rfl rfl
theorem ws_R_orbit_27 : tm_s M_R_orbit d u0 Q u S n 27 L st h = tm_gI L 2 (fun x => tm_w M_R_orbit d u0 Q u S n 28 L (.int x :: st) h) := tm_r_iload_n (i := 2) (by decide +kernel) rfl rfl
theorem dd_R_orbit_28 : decode (tm_cc M_R_orbit) 28 = .ok (.invokevirtual 118, 3) := by decide +kernel
theorem ws_R_orbit_28 : tm_s M_R_orbit d u0 Q u S n 28 L st h = tm_T M_R_orbit d u0 Q u 28 L st h := tm_r_invv dd_R_orbit_28
theorem ws_R_orbit_31 : tm_s M_R_orbit d u0 Q u S n 31 L st h = tm_p1 st (fun x r => r = [] ∧ Q (.inl (some (.int x))) h) := tm_r_iret (by decide +kernel) rfl
theorem ws_R_orbits_0 : tm_s M_R_orbits d u0 Q u S n 0 L st h = tm_gA L 0 (fun x => tm_w M_R_orbits d u0 Q u S n 1 L (.ref x :: st) h) := tm_r_aload_n (i := 0) (by decide +kernel) rfl rfl
theorem ws_R_orbits_1 : tm_s M_R_orbits d u0 Q u S n 1 L st h = tm_gI L 1 (fun x => tm_w M_R_orbits d u0 Q u S n 2 L (.int x :: st) h) := tm_r_iload_n (i := 1) (by decide +kernel) rfl rfl
theorem dd_R_orbits_2 : decode (tm_cc M_R_orbits) 2 = .ok (.invokestatic 45, 3) := by decide +kernel
theorem ws_R_orbits_2 : tm_s M_R_orbits d u0 Q u S n 2 L st h = tm_T M_R_orbits d u0 Q u 2 L st h := tm_r_invs dd_R_orbits_2
theorem ws_R_orbits_5 : tm_s M_R_orbits d u0 Q u S n 5 L st h = tm_p1 st (fun x r => (x = 0 → tm_w M_R_orbits d u0 Q u S n 12 L r h) ∧ (¬ x = 0 → tm_w M_R_orbits d u0 Q u S n 8 L r h)) := tm_r_ifeq (off := 7) (by decide +kernel) rfl rfl
theorem ws_R_orbits_8 : tm_s M_R_orbits d u0 Q u S n 8 L st h = tm_w M_R_orbits d u0 Q u S n 9 L (.int 1 :: st) h := tm_r_iconst (k := 1) (by decide +kernel) rfl (by decide)
theorem ws_R_orbits_9 : tm_s M_R_orbits d u0 Q u S n 9 L st h = tm_w M_R_orbits d u0 Q u S n 13 L st h := tm_r_goto (off := 4) (by decide +kernel) rfl
theorem ws_R_orbits_12 : tm_s M_R_orbits d u0 Q u S n 12 L st h = tm_w M_R_orbits d u0 Q u S n 13 L (.int 0 :: st) h := tm_r_iconst (k := 0) (by decide +kernel) rfl (by decide)
theorem dd_R_orbits_13 : decode (tm_cc M_R_orbits) 13 = .ok (.invokevirtual 53, 3) := by decide +kernel
theorem ws_R_orbits_13 : tm_s M_R_orbits d u0 Q u S n 13 L st h = tm_T M_R_orbits d u0 Q u 13 L st h := tm_r_invv dd_R_orbits_13
theorem ws_R_orbits_16 : tm_s M_R_orbits d u0 Q u S n 16 L st h = tm_p1 st (fun x r => (x = 0 → tm_w M_R_orbits d u0 Q u S n 21 L r h) ∧ (¬ x = 0 → tm_w M_R_orbits d u0 Q u S n 19 L r h)) := tm_r_ifeq (off := 5) (by decide +kernel) rfl rfl
theorem ws_R_orbits_19 : tm_s M_R_orbits d u0 Q u S n 19 L st h = tm_w M_R_orbits d u0 Q u S n 20 L (.int 0 :: st) h := tm_r_iconst (k := 0) (by decide +kernel) rfl (by decide)
theorem ws_R_orbits_20 : tm_s M_R_orbits d u0 Q u S n 20 L st h = tm_p1 st (fun x r => r = [] ∧ Q (.inl (some (.int x))) h) := tm_r_iret (by decide +kernel) rfl
theorem ws_R_orbits_21 : tm_s M_R_orbits d u0 Q u S n 21 L st h = tm_w M_R_orbits d u0 Q u S n 22 L (.int 0 :: st) h := tm_r_iconst (k := 0) (by decide +kernel) rfl (by decide)
theorem ws_R_orbits_22 : tm_s M_R_orbits d u0 Q u S n 22 L st h = tm_p1 st (fun x r => tm_w M_R_orbits d u0 Q u S n 23 (L.set 2 (some (.int x))) r h) := tm_r_istore_n (i := 2) (by decide +kernel) rfl rfl (by decide)
theorem ws_R_orbits_23 : tm_s M_R_orbits d u0 Q u S n 23 L st h = tm_w M_R_orbits d u0 Q u S n 24 L (.int 0 :: st) h := tm_r_iconst (k := 0) (by decide +kernel) rfl (by decide)
theorem ws_R_orbits_24 : tm_s M_R_orbits d u0 Q u S n 24 L st h = tm_p1 st (fun x r => tm_w M_R_orbits d u0 Q u S n 25 (L.set 3 (some (.int x))) r h) := tm_r_istore_n (i := 3) (by decide +kernel) rfl rfl (by decide)
theorem ws_R_orbits_25 : tm_s M_R_orbits d u0 Q u S n 25 L st h = tm_gI L 3 (fun x => tm_w M_R_orbits d u0 Q u S n 26 L (.int x :: st) h) := tm_r_iload_n (i := 3) (by decide +kernel) rfl rfl
theorem ws_R_orbits_26 : tm_s M_R_orbits d u0 Q u S n 26 L st h = tm_gA L 0 (fun x => tm_w M_R_orbits d u0 Q u S n 27 L (.ref x :: st) h) := tm_r_aload_n (i := 0) (by decide +kernel) rfl rfl
theorem ws_R_orbits_27 : tm_s M_R_orbits d u0 Q u S n 27 L st h = tm_pA st (fun a r => tm_cO (h a) 5 (fun fs => tm_fv fs 1 (fun v => tm_w M_R_orbits d u0 Q u S n 30 L (v :: r) h))) := tm_r_getf (i := 7) (by decide +kernel) rfl (by decide +kernel)
theorem ws_R_orbits_30 : tm_s M_R_orbits d u0 Q u S n 30 L st h = tm_gI L 1 (fun x => tm_w M_R_orbits d u0 Q u S n 31 L (.int x :: st) h) := tm_r_iload_n (i := 1) (by decide +kernel) rfl rfl
theorem ws_R_orbits_31 : tm_s M_R_orbits d u0 Q u S n 31 L st h = tm_p1 st (fun i r => tm_pA r (fun a r => tm_cI (h a) (fun k f => vp_in i k ∧ tm_w M_R_orbits d u0 Q u S n 32 L (.int (f i.toNatClampNeg) :: r) h))) := tm_r_iaload (by decide +kernel) rfl
theorem ws_R_orbits_32 : tm_s M_R_orbits d u0 Q u S n 32 L st h = tm_p1 st (fun y r => tm_p1 r (fun x r => (y ≤ x → tm_w M_R_orbits d u0 Q u S n 64 L r h) ∧ (¬ y ≤ x → tm_w M_R_orbits d u0 Q u S n 35 L r h))) := tm_r_icge (off := 32) (by decide +kernel) rfl rfl
theorem ws_R_orbits_35 : tm_s M_R_orbits d u0 Q u S n 35 L st h = tm_gA L 0 (fun x => tm_w M_R_orbits d u0 Q u S n 36 L (.ref x :: st) h) := tm_r_aload_n (i := 0) (by decide +kernel) rfl rfl
theorem ws_R_orbits_36 : tm_s M_R_orbits d u0 Q u S n 36 L st h = tm_gI L 1 (fun x => tm_w M_R_orbits d u0 Q u S n 37 L (.int x :: st) h) := tm_r_iload_n (i := 1) (by decide +kernel) rfl rfl
theorem ws_R_orbits_37 : tm_s M_R_orbits d u0 Q u S n 37 L st h = tm_gI L 3 (fun x => tm_w M_R_orbits d u0 Q u S n 38 L (.int x :: st) h) := tm_r_iload_n (i := 3) (by decide +kernel) rfl rfl
theorem dd_R_orbits_38 : decode (tm_cc M_R_orbits) 38 = .ok (.invokevirtual 118, 3) := by decide +kernel
theorem ws_R_orbits_38 : tm_s M_R_orbits d u0 Q u S n 38 L st h = tm_T M_R_orbits d u0 Q u 38 L st h := tm_r_invv dd_R_orbits_38
theorem ws_R_orbits_41 : tm_s M_R_orbits d u0 Q u S n 41 L st h = tm_w M_R_orbits d u0 Q u S n 42 L (.int 1 :: st) h := tm_r_iconst (k := 1) (by decide +kernel) rfl (by decide)
theorem ws_R_orbits_42 : tm_s M_R_orbits d u0 Q u S n 42 L st h = tm_gI L 3 (fun x => tm_w M_R_orbits d u0 Q u S n 43 L (.int x :: st) h) := tm_r_iload_n (i := 3) (by decide +kernel) rfl rfl
theorem ws_R_orbits_43 : tm_s M_R_orbits d u0 Q u S n 43 L st h = tm_p1 st (fun y r => tm_p1 r (fun x r => tm_w M_R_orbits d u0 Q u S n 44 L (.int (x <<< (y &&& 31)) :: r) h)) := tm_r_ishl (by decide +kernel) rfl
theorem ws_R_orbits_44 : tm_s M_R_orbits d u0 Q u S n 44 L st h = tm_w M_R_orbits d u0 Q u S n 45 L (.int 1 :: st) h := tm_r_iconst (k := 1) (by decide +kernel) rfl (by decide)
theorem ws_R_orbits_45 : tm_s M_R_orbits d u0 Q u S n 45 L st h = tm_p1 st (fun y r => tm_p1 r (fun x r => tm_w M_R_orbits d u0 Q u S n 46 L (.int (x - y) :: r) h)) := tm_r_isub (by decide +kernel) rfl
theorem ws_R_orbits_46 : tm_s M_R_orbits d u0 Q u S n 46 L st h = tm_p1 st (fun y r => tm_p1 r (fun x r => tm_w M_R_orbits d u0 Q u S n 47 L (.int (x &&& y) :: r) h)) := tm_r_iand (by decide +kernel) rfl
theorem ws_R_orbits_47 : tm_s M_R_orbits d u0 Q u S n 47 L st h = tm_p1 st (fun x r => (¬ x = 0 → tm_w M_R_orbits d u0 Q u S n 56 L r h) ∧ (¬ ¬ x = 0 → tm_w M_R_orbits d u0 Q u S n 50 L r h)) := tm_r_ifne (off := 9) (by decide +kernel) rfl rfl
theorem ws_R_orbits_50 : tm_s M_R_orbits d u0 Q u S n 50 L st h = tm_gI L 2 (fun x => tm_w M_R_orbits d u0 Q u S n 51 L (.int x :: st) h) := tm_r_iload_n (i := 2) (by decide +kernel) rfl rfl
theorem ws_R_orbits_51 : tm_s M_R_orbits d u0 Q u S n 51 L st h = tm_w M_R_orbits d u0 Q u S n 52 L (.int 1 :: st) h := tm_r_iconst (k := 1) (by decide +kernel) rfl (by decide)
theorem ws_R_orbits_52 : tm_s M_R_orbits d u0 Q u S n 52 L st h = tm_p1 st (fun y r => tm_p1 r (fun x r => tm_w M_R_orbits d u0 Q u S n 53 L (.int (x + y) :: r) h)) := tm_r_iadd (by decide +kernel) rfl
theorem ws_R_orbits_53 : tm_s M_R_orbits d u0 Q u S n 53 L st h = tm_w M_R_orbits d u0 Q u S n 57 L st h := tm_r_goto (off := 4) (by decide +kernel) rfl
theorem ws_R_orbits_56 : tm_s M_R_orbits d u0 Q u S n 56 L st h = tm_gI L 2 (fun x => tm_w M_R_orbits d u0 Q u S n 57 L (.int x :: st) h) := tm_r_iload_n (i := 2) (by decide +kernel) rfl rfl
theorem ws_R_orbits_57 : tm_s M_R_orbits d u0 Q u S n 57 L st h = tm_p1 st (fun x r => tm_w M_R_orbits d u0 Q u S n 58 (L.set 2 (some (.int x))) r h) := tm_r_istore_n (i := 2) (by decide +kernel) rfl rfl (by decide)
theorem ws_R_orbits_58 : tm_s M_R_orbits d u0 Q u S n 58 L st h = tm_gI L 3 (fun x => tm_w M_R_orbits d u0 Q u S n 61 (L.set 3 (some (.int (x + 1)))) st h) := tm_r_iinc (j := 3) (k := 1) (by decide +kernel) rfl (by decide) (by decide)
theorem ws_R_orbits_61 : tm_s M_R_orbits d u0 Q u S n 61 L st h = tm_w M_R_orbits d u0 Q u S n 25 L st h := tm_r_goto (off := (-36)) (by decide +kernel) rfl
theorem ws_R_orbits_64 : tm_s M_R_orbits d u0 Q u S n 64 L st h = tm_gI L 2 (fun x => tm_w M_R_orbits d u0 Q u S n 65 L (.int x :: st) h) := tm_r_iload_n (i := 2) (by decide +kernel) rfl rfl
theorem ws_R_orbits_65 : tm_s M_R_orbits d u0 Q u S n 65 L st h = tm_p1 st (fun x r => r = [] ∧ Q (.inl (some (.int x))) h) := tm_r_iret (by decide +kernel) rfl
theorem ws_R_cell_0 : tm_s M_R_cell d u0 Q u S n 0 L st h = tm_gA L 0 (fun x => tm_w M_R_cell d u0 Q u S n 1 L (.ref x :: st) h) := tm_r_aload_n (i := 0) (by decide +kernel) rfl rfl
theorem ws_R_cell_1 : tm_s M_R_cell d u0 Q u S n 1 L st h = tm_gA L 0 (fun x => tm_w M_R_cell d u0 Q u S n 2 L (.ref x :: st) h) := tm_r_aload_n (i := 0) (by decide +kernel) rfl rfl
theorem ws_R_cell_2 : tm_s M_R_cell d u0 Q u S n 2 L st h = tm_gI L 1 (fun x => tm_w M_R_cell d u0 Q u S n 3 L (.int x :: st) h) := tm_r_iload_n (i := 1) (by decide +kernel) rfl rfl
theorem ws_R_cell_3 : tm_s M_R_cell d u0 Q u S n 3 L st h = tm_gI L 2 (fun x => tm_w M_R_cell d u0 Q u S n 4 L (.int x :: st) h) := tm_r_iload_n (i := 2) (by decide +kernel) rfl rfl
theorem dd_R_cell_4 : decode (tm_cc M_R_cell) 4 = .ok (.invokevirtual 60, 3) := by decide +kernel
theorem ws_R_cell_4 : tm_s M_R_cell d u0 Q u S n 4 L st h = tm_T M_R_cell d u0 Q u 4 L st h := tm_r_invv dd_R_cell_4
theorem ws_R_cell_7 : tm_s M_R_cell d u0 Q u S n 7 L st h = tm_p1 st (fun x r => (x = 0 → tm_w M_R_cell d u0 Q u S n 14 L r h) ∧ (¬ x = 0 → tm_w M_R_cell d u0 Q u S n 10 L r h)) := tm_r_ifeq (off := 7) (by decide +kernel) rfl rfl
theorem ws_R_cell_10 : tm_s M_R_cell d u0 Q u S n 10 L st h = tm_w M_R_cell d u0 Q u S n 11 L (.int 1 :: st) h := tm_r_iconst (k := 1) (by decide +kernel) rfl (by decide)
theorem ws_R_cell_11 : tm_s M_R_cell d u0 Q u S n 11 L st h = tm_w M_R_cell d u0 Q u S n 15 L st h := tm_r_goto (off := 4) (by decide +kernel) rfl
theorem ws_R_cell_14 : tm_s M_R_cell d u0 Q u S n 14 L st h = tm_w M_R_cell d u0 Q u S n 15 L (.int 0 :: st) h := tm_r_iconst (k := 0) (by decide +kernel) rfl (by decide)
theorem dd_R_cell_15 : decode (tm_cc M_R_cell) 15 = .ok (.invokevirtual 53, 3) := by decide +kernel
theorem ws_R_cell_15 : tm_s M_R_cell d u0 Q u S n 15 L st h = tm_T M_R_cell d u0 Q u 15 L st h := tm_r_invv dd_R_cell_15
theorem ws_R_cell_18 : tm_s M_R_cell d u0 Q u S n 18 L st h = tm_p1 st (fun x r => (x = 0 → tm_w M_R_cell d u0 Q u S n 23 L r h) ∧ (¬ x = 0 → tm_w M_R_cell d u0 Q u S n 21 L r h)) := tm_r_ifeq (off := 5) (by decide +kernel) rfl rfl
theorem ws_R_cell_21 : tm_s M_R_cell d u0 Q u S n 21 L st h = tm_w M_R_cell d u0 Q u S n 22 L (.int 0 :: st) h := tm_r_iconst (k := 0) (by decide +kernel) rfl (by decide)
theorem ws_R_cell_22 : tm_s M_R_cell d u0 Q u S n 22 L st h = tm_p1 st (fun x r => r = [] ∧ Q (.inl (some (.int x))) h) := tm_r_iret (by decide +kernel) rfl
theorem ws_R_cell_23 : tm_s M_R_cell d u0 Q u S n 23 L st h = tm_gA L 0 (fun x => tm_w M_R_cell d u0 Q u S n 24 L (.ref x :: st) h) := tm_r_aload_n (i := 0) (by decide +kernel) rfl rfl
theorem ws_R_cell_24 : tm_s M_R_cell d u0 Q u S n 24 L st h = tm_gI L 1 (fun x => tm_w M_R_cell d u0 Q u S n 25 L (.int x :: st) h) := tm_r_iload_n (i := 1) (by decide +kernel) rfl rfl
theorem dd_R_cell_25 : decode (tm_cc M_R_cell) 25 = .ok (.invokevirtual 121, 3) := by decide +kernel
theorem ws_R_cell_25 : tm_s M_R_cell d u0 Q u S n 25 L st h = tm_T M_R_cell d u0 Q u 25 L st h := tm_r_invv dd_R_cell_25
theorem ws_R_cell_28 : tm_s M_R_cell d u0 Q u S n 28 L st h = tm_w M_R_cell d u0 Q u S n 29 L (.int 0 :: st) h := tm_r_iconst (k := 0) (by decide +kernel) rfl (by decide)
theorem ws_R_cell_29 : tm_s M_R_cell d u0 Q u S n 29 L st h = tm_p1 st (fun x r => tm_w M_R_cell d u0 Q u S n 30 (L.set 3 (some (.int x))) r h) := tm_r_istore_n (i := 3) (by decide +kernel) rfl rfl (by decide)
theorem ws_R_cell_30 : tm_s M_R_cell d u0 Q u S n 30 L st h = tm_w M_R_cell d u0 Q u S n 31 L (.int 0 :: st) h := tm_r_iconst (k := 0) (by decide +kernel) rfl (by decide)
theorem ws_R_cell_31 : tm_s M_R_cell d u0 Q u S n 31 L st h = tm_p1 st (fun x r => tm_w M_R_cell d u0 Q u S n 33 (L.set 4 (some (.int x))) r h) := tm_r_istore (j := 4) (by decide +kernel) rfl (by decide)
theorem ws_R_cell_33 : tm_s M_R_cell d u0 Q u S n 33 L st h = tm_gI L 4 (fun x => tm_w M_R_cell d u0 Q u S n 35 L (.int x :: st) h) := tm_r_iload (j := 4) (by decide +kernel) rfl
theorem ws_R_cell_35 : tm_s M_R_cell d u0 Q u S n 35 L st h = tm_gA L 0 (fun x => tm_w M_R_cell d u0 Q u S n 36 L (.ref x :: st) h) := tm_r_aload_n (i := 0) (by decide +kernel) rfl rfl
theorem ws_R_cell_36 : tm_s M_R_cell d u0 Q u S n 36 L st h = tm_pA st (fun a r => tm_cO (h a) 5 (fun fs => tm_fv fs 1 (fun v => tm_w M_R_cell d u0 Q u S n 39 L (v :: r) h))) := tm_r_getf (i := 7) (by decide +kernel) rfl (by decide +kernel)
theorem ws_R_cell_39 : tm_s M_R_cell d u0 Q u S n 39 L st h = tm_gI L 1 (fun x => tm_w M_R_cell d u0 Q u S n 40 L (.int x :: st) h) := tm_r_iload_n (i := 1) (by decide +kernel) rfl rfl
theorem ws_R_cell_40 : tm_s M_R_cell d u0 Q u S n 40 L st h = tm_p1 st (fun i r => tm_pA r (fun a r => tm_cI (h a) (fun k f => vp_in i k ∧ tm_w M_R_cell d u0 Q u S n 41 L (.int (f i.toNatClampNeg) :: r) h))) := tm_r_iaload (by decide +kernel) rfl
theorem ws_R_cell_41 : tm_s M_R_cell d u0 Q u S n 41 L st h = tm_p1 st (fun y r => tm_p1 r (fun x r => (y ≤ x → tm_w M_R_cell d u0 Q u S n 77 L r h) ∧ (¬ y ≤ x → tm_w M_R_cell d u0 Q u S n 44 L r h))) := tm_r_icge (off := 36) (by decide +kernel) rfl rfl
theorem ws_R_cell_44 : tm_s M_R_cell d u0 Q u S n 44 L st h = tm_gA L 0 (fun x => tm_w M_R_cell d u0 Q u S n 45 L (.ref x :: st) h) := tm_r_aload_n (i := 0) (by decide +kernel) rfl rfl
theorem ws_R_cell_45 : tm_s M_R_cell d u0 Q u S n 45 L st h = tm_pA st (fun a r => tm_cO (h a) 5 (fun fs => tm_fv fs 9 (fun v => tm_w M_R_cell d u0 Q u S n 48 L (v :: r) h))) := tm_r_getf (i := 29) (by decide +kernel) rfl (by decide +kernel)
theorem ws_R_cell_48 : tm_s M_R_cell d u0 Q u S n 48 L st h = tm_gI L 4 (fun x => tm_w M_R_cell d u0 Q u S n 50 L (.int x :: st) h) := tm_r_iload (j := 4) (by decide +kernel) rfl
theorem ws_R_cell_50 : tm_s M_R_cell d u0 Q u S n 50 L st h = tm_p1 st (fun i r => tm_pA r (fun a r => tm_cI (h a) (fun k f => vp_in i k ∧ tm_w M_R_cell d u0 Q u S n 51 L (.int (f i.toNatClampNeg) :: r) h))) := tm_r_iaload (by decide +kernel) rfl
theorem ws_R_cell_51 : tm_s M_R_cell d u0 Q u S n 51 L st h = tm_gA L 0 (fun x => tm_w M_R_cell d u0 Q u S n 52 L (.ref x :: st) h) := tm_r_aload_n (i := 0) (by decide +kernel) rfl rfl
theorem ws_R_cell_52 : tm_s M_R_cell d u0 Q u S n 52 L st h = tm_pA st (fun a r => tm_cO (h a) 5 (fun fs => tm_fv fs 9 (fun v => tm_w M_R_cell d u0 Q u S n 55 L (v :: r) h))) := tm_r_getf (i := 29) (by decide +kernel) rfl (by decide +kernel)
theorem ws_R_cell_55 : tm_s M_R_cell d u0 Q u S n 55 L st h = tm_gI L 2 (fun x => tm_w M_R_cell d u0 Q u S n 56 L (.int x :: st) h) := tm_r_iload_n (i := 2) (by decide +kernel) rfl rfl
theorem ws_R_cell_56 : tm_s M_R_cell d u0 Q u S n 56 L st h = tm_p1 st (fun i r => tm_pA r (fun a r => tm_cI (h a) (fun k f => vp_in i k ∧ tm_w M_R_cell d u0 Q u S n 57 L (.int (f i.toNatClampNeg) :: r) h))) := tm_r_iaload (by decide +kernel) rfl
theorem ws_R_cell_57 : tm_s M_R_cell d u0 Q u S n 57 L st h = tm_p1 st (fun y r => tm_p1 r (fun x r => (¬ x = y → tm_w M_R_cell d u0 Q u S n 69 L r h) ∧ (¬ ¬ x = y → tm_w M_R_cell d u0 Q u S n 60 L r h))) := tm_r_icne (off := 12) (by decide +kernel) rfl rfl
theorem ws_R_cell_60 : tm_s M_R_cell d u0 Q u S n 60 L st h = tm_gI L 3 (fun x => tm_w M_R_cell d u0 Q u S n 61 L (.int x :: st) h) := tm_r_iload_n (i := 3) (by decide +kernel) rfl rfl
theorem ws_R_cell_61 : tm_s M_R_cell d u0 Q u S n 61 L st h = tm_w M_R_cell d u0 Q u S n 62 L (.int 1 :: st) h := tm_r_iconst (k := 1) (by decide +kernel) rfl (by decide)
theorem ws_R_cell_62 : tm_s M_R_cell d u0 Q u S n 62 L st h = tm_gI L 4 (fun x => tm_w M_R_cell d u0 Q u S n 64 L (.int x :: st) h) := tm_r_iload (j := 4) (by decide +kernel) rfl
theorem ws_R_cell_64 : tm_s M_R_cell d u0 Q u S n 64 L st h = tm_p1 st (fun y r => tm_p1 r (fun x r => tm_w M_R_cell d u0 Q u S n 65 L (.int (x <<< (y &&& 31)) :: r) h)) := tm_r_ishl (by decide +kernel) rfl
theorem ws_R_cell_65 : tm_s M_R_cell d u0 Q u S n 65 L st h = tm_p1 st (fun y r => tm_p1 r (fun x r => tm_w M_R_cell d u0 Q u S n 66 L (.int (x ||| y) :: r) h)) := tm_r_ior (by decide +kernel) rfl
theorem ws_R_cell_66 : tm_s M_R_cell d u0 Q u S n 66 L st h = tm_w M_R_cell d u0 Q u S n 70 L st h := tm_r_goto (off := 4) (by decide +kernel) rfl
theorem ws_R_cell_69 : tm_s M_R_cell d u0 Q u S n 69 L st h = tm_gI L 3 (fun x => tm_w M_R_cell d u0 Q u S n 70 L (.int x :: st) h) := tm_r_iload_n (i := 3) (by decide +kernel) rfl rfl
theorem ws_R_cell_70 : tm_s M_R_cell d u0 Q u S n 70 L st h = tm_p1 st (fun x r => tm_w M_R_cell d u0 Q u S n 71 (L.set 3 (some (.int x))) r h) := tm_r_istore_n (i := 3) (by decide +kernel) rfl rfl (by decide)
theorem ws_R_cell_71 : tm_s M_R_cell d u0 Q u S n 71 L st h = tm_gI L 4 (fun x => tm_w M_R_cell d u0 Q u S n 74 (L.set 4 (some (.int (x + 1)))) st h) := tm_r_iinc (j := 4) (k := 1) (by decide +kernel) rfl (by decide) (by decide)
theorem ws_R_cell_74 : tm_s M_R_cell d u0 Q u S n 74 L st h = tm_w M_R_cell d u0 Q u S n 33 L st h := tm_r_goto (off := (-41)) (by decide +kernel) rfl
theorem ws_R_cell_77 : tm_s M_R_cell d u0 Q u S n 77 L st h = tm_gI L 3 (fun x => tm_w M_R_cell d u0 Q u S n 78 L (.int x :: st) h) := tm_r_iload_n (i := 3) (by decide +kernel) rfl rfl
theorem ws_R_cell_78 : tm_s M_R_cell d u0 Q u S n 78 L st h = tm_p1 st (fun x r => r = [] ∧ Q (.inl (some (.int x))) h) := tm_r_iret (by decide +kernel) rfl
theorem ws_R_cells_0 : tm_s M_R_cells d u0 Q u S n 0 L st h = tm_gA L 0 (fun x => tm_w M_R_cells d u0 Q u S n 1 L (.ref x :: st) h) := tm_r_aload_n (i := 0) (by decide +kernel) rfl rfl
theorem ws_R_cells_1 : tm_s M_R_cells d u0 Q u S n 1 L st h = tm_gI L 1 (fun x => tm_w M_R_cells d u0 Q u S n 2 L (.int x :: st) h) := tm_r_iload_n (i := 1) (by decide +kernel) rfl rfl
theorem dd_R_cells_2 : decode (tm_cc M_R_cells) 2 = .ok (.invokestatic 45, 3) := by decide +kernel
theorem ws_R_cells_2 : tm_s M_R_cells d u0 Q u S n 2 L st h = tm_T M_R_cells d u0 Q u 2 L st h := tm_r_invs dd_R_cells_2
theorem ws_R_cells_5 : tm_s M_R_cells d u0 Q u S n 5 L st h = tm_p1 st (fun x r => (x = 0 → tm_w M_R_cells d u0 Q u S n 12 L r h) ∧ (¬ x = 0 → tm_w M_R_cells d u0 Q u S n 8 L r h)) := tm_r_ifeq (off := 7) (by decide +kernel) rfl rfl
theorem ws_R_cells_8 : tm_s M_R_cells d u0 Q u S n 8 L st h = tm_w M_R_cells d u0 Q u S n 9 L (.int 1 :: st) h := tm_r_iconst (k := 1) (by decide +kernel) rfl (by decide)
theorem ws_R_cells_9 : tm_s M_R_cells d u0 Q u S n 9 L st h = tm_w M_R_cells d u0 Q u S n 13 L st h := tm_r_goto (off := 4) (by decide +kernel) rfl
theorem ws_R_cells_12 : tm_s M_R_cells d u0 Q u S n 12 L st h = tm_w M_R_cells d u0 Q u S n 13 L (.int 0 :: st) h := tm_r_iconst (k := 0) (by decide +kernel) rfl (by decide)
theorem dd_R_cells_13 : decode (tm_cc M_R_cells) 13 = .ok (.invokevirtual 53, 3) := by decide +kernel
theorem ws_R_cells_13 : tm_s M_R_cells d u0 Q u S n 13 L st h = tm_T M_R_cells d u0 Q u 13 L st h := tm_r_invv dd_R_cells_13
theorem ws_R_cells_16 : tm_s M_R_cells d u0 Q u S n 16 L st h = tm_p1 st (fun x r => (x = 0 → tm_w M_R_cells d u0 Q u S n 21 L r h) ∧ (¬ x = 0 → tm_w M_R_cells d u0 Q u S n 19 L r h)) := tm_r_ifeq (off := 5) (by decide +kernel) rfl rfl
theorem ws_R_cells_19 : tm_s M_R_cells d u0 Q u S n 19 L st h = tm_w M_R_cells d u0 Q u S n 20 L (.int 0 :: st) h := tm_r_iconst (k := 0) (by decide +kernel) rfl (by decide)
theorem ws_R_cells_20 : tm_s M_R_cells d u0 Q u S n 20 L st h = tm_p1 st (fun x r => r = [] ∧ Q (.inl (some (.int x))) h) := tm_r_iret (by decide +kernel) rfl
theorem ws_R_cells_21 : tm_s M_R_cells d u0 Q u S n 21 L st h = tm_gA L 0 (fun x => tm_w M_R_cells d u0 Q u S n 22 L (.ref x :: st) h) := tm_r_aload_n (i := 0) (by decide +kernel) rfl rfl
theorem ws_R_cells_22 : tm_s M_R_cells d u0 Q u S n 22 L st h = tm_gI L 1 (fun x => tm_w M_R_cells d u0 Q u S n 23 L (.int x :: st) h) := tm_r_iload_n (i := 1) (by decide +kernel) rfl rfl
theorem dd_R_cells_23 : decode (tm_cc M_R_cells) 23 = .ok (.invokevirtual 121, 3) := by decide +kernel
theorem ws_R_cells_23 : tm_s M_R_cells d u0 Q u S n 23 L st h = tm_T M_R_cells d u0 Q u 23 L st h := tm_r_invv dd_R_cells_23
theorem ws_R_cells_26 : tm_s M_R_cells d u0 Q u S n 26 L st h = tm_w M_R_cells d u0 Q u S n 27 L (.int 0 :: st) h := tm_r_iconst (k := 0) (by decide +kernel) rfl (by decide)
theorem ws_R_cells_27 : tm_s M_R_cells d u0 Q u S n 27 L st h = tm_p1 st (fun x r => tm_w M_R_cells d u0 Q u S n 28 (L.set 2 (some (.int x))) r h) := tm_r_istore_n (i := 2) (by decide +kernel) rfl rfl (by decide)
theorem ws_R_cells_28 : tm_s M_R_cells d u0 Q u S n 28 L st h = tm_w M_R_cells d u0 Q u S n 29 L (.int 0 :: st) h := tm_r_iconst (k := 0) (by decide +kernel) rfl (by decide)
theorem ws_R_cells_29 : tm_s M_R_cells d u0 Q u S n 29 L st h = tm_p1 st (fun x r => tm_w M_R_cells d u0 Q u S n 30 (L.set 3 (some (.int x))) r h) := tm_r_istore_n (i := 3) (by decide +kernel) rfl rfl (by decide)
theorem ws_R_cells_30 : tm_s M_R_cells d u0 Q u S n 30 L st h = tm_gI L 3 (fun x => tm_w M_R_cells d u0 Q u S n 31 L (.int x :: st) h) := tm_r_iload_n (i := 3) (by decide +kernel) rfl rfl
theorem ws_R_cells_31 : tm_s M_R_cells d u0 Q u S n 31 L st h = tm_gA L 0 (fun x => tm_w M_R_cells d u0 Q u S n 32 L (.ref x :: st) h) := tm_r_aload_n (i := 0) (by decide +kernel) rfl rfl
theorem ws_R_cells_32 : tm_s M_R_cells d u0 Q u S n 32 L st h = tm_pA st (fun a r => tm_cO (h a) 5 (fun fs => tm_fv fs 1 (fun v => tm_w M_R_cells d u0 Q u S n 35 L (v :: r) h))) := tm_r_getf (i := 7) (by decide +kernel) rfl (by decide +kernel)
theorem ws_R_cells_35 : tm_s M_R_cells d u0 Q u S n 35 L st h = tm_gI L 1 (fun x => tm_w M_R_cells d u0 Q u S n 36 L (.int x :: st) h) := tm_r_iload_n (i := 1) (by decide +kernel) rfl rfl
theorem ws_R_cells_36 : tm_s M_R_cells d u0 Q u S n 36 L st h = tm_p1 st (fun i r => tm_pA r (fun a r => tm_cI (h a) (fun k f => vp_in i k ∧ tm_w M_R_cells d u0 Q u S n 37 L (.int (f i.toNatClampNeg) :: r) h))) := tm_r_iaload (by decide +kernel) rfl
theorem ws_R_cells_37 : tm_s M_R_cells d u0 Q u S n 37 L st h = tm_p1 st (fun y r => tm_p1 r (fun x r => (y ≤ x → tm_w M_R_cells d u0 Q u S n 64 L r h) ∧ (¬ y ≤ x → tm_w M_R_cells d u0 Q u S n 40 L r h))) := tm_r_icge (off := 27) (by decide +kernel) rfl rfl
theorem ws_R_cells_40 : tm_s M_R_cells d u0 Q u S n 40 L st h = tm_gA L 0 (fun x => tm_w M_R_cells d u0 Q u S n 41 L (.ref x :: st) h) := tm_r_aload_n (i := 0) (by decide +kernel) rfl rfl
theorem ws_R_cells_41 : tm_s M_R_cells d u0 Q u S n 41 L st h = tm_pA st (fun a r => tm_cO (h a) 5 (fun fs => tm_fv fs 9 (fun v => tm_w M_R_cells d u0 Q u S n 44 L (v :: r) h))) := tm_r_getf (i := 29) (by decide +kernel) rfl (by decide +kernel)
theorem ws_R_cells_44 : tm_s M_R_cells d u0 Q u S n 44 L st h = tm_gI L 3 (fun x => tm_w M_R_cells d u0 Q u S n 45 L (.int x :: st) h) := tm_r_iload_n (i := 3) (by decide +kernel) rfl rfl
theorem ws_R_cells_45 : tm_s M_R_cells d u0 Q u S n 45 L st h = tm_p1 st (fun i r => tm_pA r (fun a r => tm_cI (h a) (fun k f => vp_in i k ∧ tm_w M_R_cells d u0 Q u S n 46 L (.int (f i.toNatClampNeg) :: r) h))) := tm_r_iaload (by decide +kernel) rfl
theorem ws_R_cells_46 : tm_s M_R_cells d u0 Q u S n 46 L st h = tm_gI L 3 (fun x => tm_w M_R_cells d u0 Q u S n 47 L (.int x :: st) h) := tm_r_iload_n (i := 3) (by decide +kernel) rfl rfl
theorem ws_R_cells_47 : tm_s M_R_cells d u0 Q u S n 47 L st h = tm_p1 st (fun y r => tm_p1 r (fun x r => (¬ x = y → tm_w M_R_cells d u0 Q u S n 56 L r h) ∧ (¬ ¬ x = y → tm_w M_R_cells d u0 Q u S n 50 L r h))) := tm_r_icne (off := 9) (by decide +kernel) rfl rfl
theorem ws_R_cells_50 : tm_s M_R_cells d u0 Q u S n 50 L st h = tm_gI L 2 (fun x => tm_w M_R_cells d u0 Q u S n 51 L (.int x :: st) h) := tm_r_iload_n (i := 2) (by decide +kernel) rfl rfl
theorem ws_R_cells_51 : tm_s M_R_cells d u0 Q u S n 51 L st h = tm_w M_R_cells d u0 Q u S n 52 L (.int 1 :: st) h := tm_r_iconst (k := 1) (by decide +kernel) rfl (by decide)
theorem ws_R_cells_52 : tm_s M_R_cells d u0 Q u S n 52 L st h = tm_p1 st (fun y r => tm_p1 r (fun x r => tm_w M_R_cells d u0 Q u S n 53 L (.int (x + y) :: r) h)) := tm_r_iadd (by decide +kernel) rfl
theorem ws_R_cells_53 : tm_s M_R_cells d u0 Q u S n 53 L st h = tm_w M_R_cells d u0 Q u S n 57 L st h := tm_r_goto (off := 4) (by decide +kernel) rfl
theorem ws_R_cells_56 : tm_s M_R_cells d u0 Q u S n 56 L st h = tm_gI L 2 (fun x => tm_w M_R_cells d u0 Q u S n 57 L (.int x :: st) h) := tm_r_iload_n (i := 2) (by decide +kernel) rfl rfl
theorem ws_R_cells_57 : tm_s M_R_cells d u0 Q u S n 57 L st h = tm_p1 st (fun x r => tm_w M_R_cells d u0 Q u S n 58 (L.set 2 (some (.int x))) r h) := tm_r_istore_n (i := 2) (by decide +kernel) rfl rfl (by decide)
theorem ws_R_cells_58 : tm_s M_R_cells d u0 Q u S n 58 L st h = tm_gI L 3 (fun x => tm_w M_R_cells d u0 Q u S n 61 (L.set 3 (some (.int (x + 1)))) st h) := tm_r_iinc (j := 3) (k := 1) (by decide +kernel) rfl (by decide) (by decide)
theorem ws_R_cells_61 : tm_s M_R_cells d u0 Q u S n 61 L st h = tm_w M_R_cells d u0 Q u S n 30 L st h := tm_r_goto (off := (-31)) (by decide +kernel) rfl
theorem ws_R_cells_64 : tm_s M_R_cells d u0 Q u S n 64 L st h = tm_gI L 2 (fun x => tm_w M_R_cells d u0 Q u S n 65 L (.int x :: st) h) := tm_r_iload_n (i := 2) (by decide +kernel) rfl rfl
theorem ws_R_cells_65 : tm_s M_R_cells d u0 Q u S n 65 L st h = tm_p1 st (fun x r => r = [] ∧ Q (.inl (some (.int x))) h) := tm_r_iret (by decide +kernel) rfl
theorem ws_R_alike_0 : tm_s M_R_alike d u0 Q u S n 0 L st h = tm_gA L 0 (fun x => tm_w M_R_alike d u0 Q u S n 1 L (.ref x :: st) h) := tm_r_aload_n (i := 0) (by decide +kernel) rfl rfl
theorem ws_R_alike_1 : tm_s M_R_alike d u0 Q u S n 1 L st h = tm_gI L 1 (fun x => tm_w M_R_alike d u0 Q u S n 2 L (.int x :: st) h) := tm_r_iload_n (i := 1) (by decide +kernel) rfl rfl
theorem dd_R_alike_2 : decode (tm_cc M_R_alike) 2 = .ok (.invokevirtual 72, 3) := by decide +kernel
theorem ws_R_alike_2 : tm_s M_R_alike d u0 Q u S n 2 L st h = tm_T M_R_alike d u0 Q u 2 L st h := tm_r_invv dd_R_alike_2
theorem ws_R_alike_5 : tm_s M_R_alike d u0 Q u S n 5 L st h = tm_gA L 0 (fun x => tm_w M_R_alike d u0 Q u S n 6 L (.ref x :: st) h) := tm_r_aload_n (i := 0) (by decide +kernel) rfl rfl
theorem ws_R_alike_6 : tm_s M_R_alike d u0 Q u S n 6 L st h = tm_gA L 0 (fun x => tm_w M_R_alike d u0 Q u S n 7 L (.ref x :: st) h) := tm_r_aload_n (i := 0) (by decide +kernel) rfl rfl
theorem ws_R_alike_7 : tm_s M_R_alike d u0 Q u S n 7 L st h = tm_pA st (fun a r => tm_cO (h a) 5 (fun fs => tm_fv fs 6 (fun v => tm_w M_R_alike d u0 Q u S n 10 L (v :: r) h))) := tm_r_getf (i := 83) (by decide +kernel) rfl (by decide +kernel)
theorem ws_R_alike_10 : tm_s M_R_alike d u0 Q u S n 10 L st h = tm_p1 st (fun v r => tm_pA r (fun a r => tm_cO (h a) 5 (fun fs => 8 < fs.length ∧ tm_w M_R_alike d u0 Q u S n 13 L r (tm_up h a (tm_o 5 (fs.set 8 (.int v))))))) := tm_r_puti (i := 124) (by decide +kernel) rfl (by decide +kernel)
theorem ws_R_alike_13 : tm_s M_R_alike d u0 Q u S n 13 L st h = tm_w M_R_alike d u0 Q u S n 14 L (.int 0 :: st) h := tm_r_iconst (k := 0) (by decide +kernel) rfl (by decide)
theorem ws_R_alike_14 : tm_s M_R_alike d u0 Q u S n 14 L st h = tm_p1 st (fun x r => tm_w M_R_alike d u0 Q u S n 15 (L.set 3 (some (.int x))) r h) := tm_r_istore_n (i := 3) (by decide +kernel) rfl rfl (by decide)
theorem ws_R_alike_15 : tm_s M_R_alike d u0 Q u S n 15 L st h = tm_gI L 3 (fun x => tm_w M_R_alike d u0 Q u S n 16 L (.int x :: st) h) := tm_r_iload_n (i := 3) (by decide +kernel) rfl rfl
theorem ws_R_alike_16 : tm_s M_R_alike d u0 Q u S n 16 L st h = tm_w M_R_alike d u0 Q u S n 18 L (.int 7 :: st) h := tm_r_bipush (k := 7) (by decide +kernel) rfl (by decide)
theorem ws_R_alike_18 : tm_s M_R_alike d u0 Q u S n 18 L st h = tm_p1 st (fun y r => tm_p1 r (fun x r => (y ≤ x → tm_w M_R_alike d u0 Q u S n 39 L r h) ∧ (¬ y ≤ x → tm_w M_R_alike d u0 Q u S n 21 L r h))) := tm_r_icge (off := 21) (by decide +kernel) rfl rfl
theorem ws_R_alike_21 : tm_s M_R_alike d u0 Q u S n 21 L st h = tm_gA L 0 (fun x => tm_w M_R_alike d u0 Q u S n 22 L (.ref x :: st) h) := tm_r_aload_n (i := 0) (by decide +kernel) rfl rfl
theorem ws_R_alike_22 : tm_s M_R_alike d u0 Q u S n 22 L st h = tm_pA st (fun a r => tm_cO (h a) 5 (fun fs => tm_fv fs 7 (fun v => tm_w M_R_alike d u0 Q u S n 25 L (v :: r) h))) := tm_r_getf (i := 26) (by decide +kernel) rfl (by decide +kernel)
theorem ws_R_alike_25 : tm_s M_R_alike d u0 Q u S n 25 L st h = tm_gI L 3 (fun x => tm_w M_R_alike d u0 Q u S n 26 L (.int x :: st) h) := tm_r_iload_n (i := 3) (by decide +kernel) rfl rfl
theorem ws_R_alike_26 : tm_s M_R_alike d u0 Q u S n 26 L st h = tm_gA L 0 (fun x => tm_w M_R_alike d u0 Q u S n 27 L (.ref x :: st) h) := tm_r_aload_n (i := 0) (by decide +kernel) rfl rfl
theorem ws_R_alike_27 : tm_s M_R_alike d u0 Q u S n 27 L st h = tm_pA st (fun a r => tm_cO (h a) 5 (fun fs => tm_fv fs 5 (fun v => tm_w M_R_alike d u0 Q u S n 30 L (v :: r) h))) := tm_r_getf (i := 23) (by decide +kernel) rfl (by decide +kernel)
theorem ws_R_alike_30 : tm_s M_R_alike d u0 Q u S n 30 L st h = tm_gI L 3 (fun x => tm_w M_R_alike d u0 Q u S n 31 L (.int x :: st) h) := tm_r_iload_n (i := 3) (by decide +kernel) rfl rfl
theorem ws_R_alike_31 : tm_s M_R_alike d u0 Q u S n 31 L st h = tm_p1 st (fun i r => tm_pA r (fun a r => tm_cI (h a) (fun k f => vp_in i k ∧ tm_w M_R_alike d u0 Q u S n 32 L (.int (f i.toNatClampNeg) :: r) h))) := tm_r_iaload (by decide +kernel) rfl
theorem ws_R_alike_32 : tm_s M_R_alike d u0 Q u S n 32 L st h = tm_p1 st (fun x r => tm_p1 r (fun i r => tm_pA r (fun a r => tm_cI (h a) (fun k f => a < tm_K ∧ vp_in i k ∧ tm_w M_R_alike d u0 Q u S n 33 L r (tm_up h a (tm_i k (upd f i.toNatClampNeg x))))))) := tm_r_iastore (by decide +kernel) rfl
theorem ws_R_alike_33 : tm_s M_R_alike d u0 Q u S n 33 L st h = tm_gI L 3 (fun x => tm_w M_R_alike d u0 Q u S n 36 (L.set 3 (some (.int (x + 1)))) st h) := tm_r_iinc (j := 3) (k := 1) (by decide +kernel) rfl (by decide) (by decide)
theorem ws_R_alike_36 : tm_s M_R_alike d u0 Q u S n 36 L st h = tm_w M_R_alike d u0 Q u S n 15 L st h := tm_r_goto (off := (-21)) (by decide +kernel) rfl
theorem ws_R_alike_39 : tm_s M_R_alike d u0 Q u S n 39 L st h = tm_gA L 0 (fun x => tm_w M_R_alike d u0 Q u S n 40 L (.ref x :: st) h) := tm_r_aload_n (i := 0) (by decide +kernel) rfl rfl
theorem ws_R_alike_40 : tm_s M_R_alike d u0 Q u S n 40 L st h = tm_gI L 2 (fun x => tm_w M_R_alike d u0 Q u S n 41 L (.int x :: st) h) := tm_r_iload_n (i := 2) (by decide +kernel) rfl rfl
theorem dd_R_alike_41 : decode (tm_cc M_R_alike) 41 = .ok (.invokevirtual 72, 3) := by decide +kernel
theorem ws_R_alike_41 : tm_s M_R_alike d u0 Q u S n 41 L st h = tm_T M_R_alike d u0 Q u 41 L st h := tm_r_invv dd_R_alike_41
theorem ws_R_alike_44 : tm_s M_R_alike d u0 Q u S n 44 L st h = tm_gA L 0 (fun x => tm_w M_R_alike d u0 Q u S n 45 L (.ref x :: st) h) := tm_r_aload_n (i := 0) (by decide +kernel) rfl rfl
theorem ws_R_alike_45 : tm_s M_R_alike d u0 Q u S n 45 L st h = tm_pA st (fun a r => tm_cO (h a) 5 (fun fs => tm_fv fs 1 (fun v => tm_w M_R_alike d u0 Q u S n 48 L (v :: r) h))) := tm_r_getf (i := 7) (by decide +kernel) rfl (by decide +kernel)
theorem ws_R_alike_48 : tm_s M_R_alike d u0 Q u S n 48 L st h = tm_gI L 1 (fun x => tm_w M_R_alike d u0 Q u S n 49 L (.int x :: st) h) := tm_r_iload_n (i := 1) (by decide +kernel) rfl rfl
theorem ws_R_alike_49 : tm_s M_R_alike d u0 Q u S n 49 L st h = tm_p1 st (fun i r => tm_pA r (fun a r => tm_cI (h a) (fun k f => vp_in i k ∧ tm_w M_R_alike d u0 Q u S n 50 L (.int (f i.toNatClampNeg) :: r) h))) := tm_r_iaload (by decide +kernel) rfl
theorem ws_R_alike_50 : tm_s M_R_alike d u0 Q u S n 50 L st h = tm_gA L 0 (fun x => tm_w M_R_alike d u0 Q u S n 51 L (.ref x :: st) h) := tm_r_aload_n (i := 0) (by decide +kernel) rfl rfl
theorem ws_R_alike_51 : tm_s M_R_alike d u0 Q u S n 51 L st h = tm_pA st (fun a r => tm_cO (h a) 5 (fun fs => tm_fv fs 1 (fun v => tm_w M_R_alike d u0 Q u S n 54 L (v :: r) h))) := tm_r_getf (i := 7) (by decide +kernel) rfl (by decide +kernel)
theorem ws_R_alike_54 : tm_s M_R_alike d u0 Q u S n 54 L st h = tm_gI L 2 (fun x => tm_w M_R_alike d u0 Q u S n 55 L (.int x :: st) h) := tm_r_iload_n (i := 2) (by decide +kernel) rfl rfl
theorem ws_R_alike_55 : tm_s M_R_alike d u0 Q u S n 55 L st h = tm_p1 st (fun i r => tm_pA r (fun a r => tm_cI (h a) (fun k f => vp_in i k ∧ tm_w M_R_alike d u0 Q u S n 56 L (.int (f i.toNatClampNeg) :: r) h))) := tm_r_iaload (by decide +kernel) rfl
theorem ws_R_alike_56 : tm_s M_R_alike d u0 Q u S n 56 L st h = tm_p1 st (fun y r => tm_p1 r (fun x r => (¬ x = y → tm_w M_R_alike d u0 Q u S n 74 L r h) ∧ (¬ ¬ x = y → tm_w M_R_alike d u0 Q u S n 59 L r h))) := tm_r_icne (off := 18) (by decide +kernel) rfl rfl
theorem ws_R_alike_59 : tm_s M_R_alike d u0 Q u S n 59 L st h = tm_gA L 0 (fun x => tm_w M_R_alike d u0 Q u S n 60 L (.ref x :: st) h) := tm_r_aload_n (i := 0) (by decide +kernel) rfl rfl
theorem ws_R_alike_60 : tm_s M_R_alike d u0 Q u S n 60 L st h = tm_pA st (fun a r => tm_cO (h a) 5 (fun fs => tm_fv fs 8 (fun v => tm_w M_R_alike d u0 Q u S n 63 L (v :: r) h))) := tm_r_getf (i := 124) (by decide +kernel) rfl (by decide +kernel)
theorem ws_R_alike_63 : tm_s M_R_alike d u0 Q u S n 63 L st h = tm_gA L 0 (fun x => tm_w M_R_alike d u0 Q u S n 64 L (.ref x :: st) h) := tm_r_aload_n (i := 0) (by decide +kernel) rfl rfl
theorem ws_R_alike_64 : tm_s M_R_alike d u0 Q u S n 64 L st h = tm_pA st (fun a r => tm_cO (h a) 5 (fun fs => tm_fv fs 6 (fun v => tm_w M_R_alike d u0 Q u S n 67 L (v :: r) h))) := tm_r_getf (i := 83) (by decide +kernel) rfl (by decide +kernel)
theorem ws_R_alike_67 : tm_s M_R_alike d u0 Q u S n 67 L st h = tm_p1 st (fun y r => tm_p1 r (fun x r => (¬ x = y → tm_w M_R_alike d u0 Q u S n 74 L r h) ∧ (¬ ¬ x = y → tm_w M_R_alike d u0 Q u S n 70 L r h))) := tm_r_icne (off := 7) (by decide +kernel) rfl rfl
theorem ws_R_alike_70 : tm_s M_R_alike d u0 Q u S n 70 L st h = tm_w M_R_alike d u0 Q u S n 71 L (.int 1 :: st) h := tm_r_iconst (k := 1) (by decide +kernel) rfl (by decide)
theorem ws_R_alike_71 : tm_s M_R_alike d u0 Q u S n 71 L st h = tm_w M_R_alike d u0 Q u S n 75 L st h := tm_r_goto (off := 4) (by decide +kernel) rfl
theorem ws_R_alike_74 : tm_s M_R_alike d u0 Q u S n 74 L st h = tm_w M_R_alike d u0 Q u S n 75 L (.int 0 :: st) h := tm_r_iconst (k := 0) (by decide +kernel) rfl (by decide)
theorem ws_R_alike_75 : tm_s M_R_alike d u0 Q u S n 75 L st h = tm_p1 st (fun x r => tm_w M_R_alike d u0 Q u S n 76 (L.set 3 (some (.int x))) r h) := tm_r_istore_n (i := 3) (by decide +kernel) rfl rfl (by decide)
theorem ws_R_alike_76 : tm_s M_R_alike d u0 Q u S n 76 L st h = tm_w M_R_alike d u0 Q u S n 77 L (.int 0 :: st) h := tm_r_iconst (k := 0) (by decide +kernel) rfl (by decide)
theorem ws_R_alike_77 : tm_s M_R_alike d u0 Q u S n 77 L st h = tm_p1 st (fun x r => tm_w M_R_alike d u0 Q u S n 79 (L.set 4 (some (.int x))) r h) := tm_r_istore (j := 4) (by decide +kernel) rfl (by decide)
theorem ws_R_alike_79 : tm_s M_R_alike d u0 Q u S n 79 L st h = tm_gI L 4 (fun x => tm_w M_R_alike d u0 Q u S n 81 L (.int x :: st) h) := tm_r_iload (j := 4) (by decide +kernel) rfl
theorem ws_R_alike_81 : tm_s M_R_alike d u0 Q u S n 81 L st h = tm_gA L 0 (fun x => tm_w M_R_alike d u0 Q u S n 82 L (.ref x :: st) h) := tm_r_aload_n (i := 0) (by decide +kernel) rfl rfl
theorem ws_R_alike_82 : tm_s M_R_alike d u0 Q u S n 82 L st h = tm_pA st (fun a r => tm_cO (h a) 5 (fun fs => tm_fv fs 1 (fun v => tm_w M_R_alike d u0 Q u S n 85 L (v :: r) h))) := tm_r_getf (i := 7) (by decide +kernel) rfl (by decide +kernel)
theorem ws_R_alike_85 : tm_s M_R_alike d u0 Q u S n 85 L st h = tm_gI L 1 (fun x => tm_w M_R_alike d u0 Q u S n 86 L (.int x :: st) h) := tm_r_iload_n (i := 1) (by decide +kernel) rfl rfl
theorem ws_R_alike_86 : tm_s M_R_alike d u0 Q u S n 86 L st h = tm_p1 st (fun i r => tm_pA r (fun a r => tm_cI (h a) (fun k f => vp_in i k ∧ tm_w M_R_alike d u0 Q u S n 87 L (.int (f i.toNatClampNeg) :: r) h))) := tm_r_iaload (by decide +kernel) rfl
theorem ws_R_alike_87 : tm_s M_R_alike d u0 Q u S n 87 L st h = tm_p1 st (fun y r => tm_p1 r (fun x r => (y ≤ x → tm_w M_R_alike d u0 Q u S n 133 L r h) ∧ (¬ y ≤ x → tm_w M_R_alike d u0 Q u S n 90 L r h))) := tm_r_icge (off := 46) (by decide +kernel) rfl rfl
theorem ws_R_alike_90 : tm_s M_R_alike d u0 Q u S n 90 L st h = tm_gI L 3 (fun x => tm_w M_R_alike d u0 Q u S n 91 L (.int x :: st) h) := tm_r_iload_n (i := 3) (by decide +kernel) rfl rfl
theorem ws_R_alike_91 : tm_s M_R_alike d u0 Q u S n 91 L st h = tm_p1 st (fun x r => (x = 0 → tm_w M_R_alike d u0 Q u S n 133 L r h) ∧ (¬ x = 0 → tm_w M_R_alike d u0 Q u S n 94 L r h)) := tm_r_ifeq (off := 42) (by decide +kernel) rfl rfl
theorem ws_R_alike_94 : tm_s M_R_alike d u0 Q u S n 94 L st h = tm_gA L 0 (fun x => tm_w M_R_alike d u0 Q u S n 95 L (.ref x :: st) h) := tm_r_aload_n (i := 0) (by decide +kernel) rfl rfl
theorem ws_R_alike_95 : tm_s M_R_alike d u0 Q u S n 95 L st h = tm_gI L 1 (fun x => tm_w M_R_alike d u0 Q u S n 96 L (.int x :: st) h) := tm_r_iload_n (i := 1) (by decide +kernel) rfl rfl
theorem ws_R_alike_96 : tm_s M_R_alike d u0 Q u S n 96 L st h = tm_gA L 0 (fun x => tm_w M_R_alike d u0 Q u S n 97 L (.ref x :: st) h) := tm_r_aload_n (i := 0) (by decide +kernel) rfl rfl
theorem ws_R_alike_97 : tm_s M_R_alike d u0 Q u S n 97 L st h = tm_pA st (fun a r => tm_cO (h a) 5 (fun fs => tm_fv fs 7 (fun v => tm_w M_R_alike d u0 Q u S n 100 L (v :: r) h))) := tm_r_getf (i := 26) (by decide +kernel) rfl (by decide +kernel)
theorem ws_R_alike_100 : tm_s M_R_alike d u0 Q u S n 100 L st h = tm_gI L 4 (fun x => tm_w M_R_alike d u0 Q u S n 102 L (.int x :: st) h) := tm_r_iload (j := 4) (by decide +kernel) rfl
theorem ws_R_alike_102 : tm_s M_R_alike d u0 Q u S n 102 L st h = tm_p1 st (fun i r => tm_pA r (fun a r => tm_cI (h a) (fun k f => vp_in i k ∧ tm_w M_R_alike d u0 Q u S n 103 L (.int (f i.toNatClampNeg) :: r) h))) := tm_r_iaload (by decide +kernel) rfl
theorem dd_R_alike_103 : decode (tm_cc M_R_alike) 103 = .ok (.invokevirtual 64, 3) := by decide +kernel
theorem ws_R_alike_103 : tm_s M_R_alike d u0 Q u S n 103 L st h = tm_T M_R_alike d u0 Q u 103 L st h := tm_r_invv dd_R_alike_103
theorem ws_R_alike_106 : tm_s M_R_alike d u0 Q u S n 106 L st h = tm_gA L 0 (fun x => tm_w M_R_alike d u0 Q u S n 107 L (.ref x :: st) h) := tm_r_aload_n (i := 0) (by decide +kernel) rfl rfl
theorem ws_R_alike_107 : tm_s M_R_alike d u0 Q u S n 107 L st h = tm_gI L 2 (fun x => tm_w M_R_alike d u0 Q u S n 108 L (.int x :: st) h) := tm_r_iload_n (i := 2) (by decide +kernel) rfl rfl
theorem ws_R_alike_108 : tm_s M_R_alike d u0 Q u S n 108 L st h = tm_gA L 0 (fun x => tm_w M_R_alike d u0 Q u S n 109 L (.ref x :: st) h) := tm_r_aload_n (i := 0) (by decide +kernel) rfl rfl
theorem ws_R_alike_109 : tm_s M_R_alike d u0 Q u S n 109 L st h = tm_pA st (fun a r => tm_cO (h a) 5 (fun fs => tm_fv fs 5 (fun v => tm_w M_R_alike d u0 Q u S n 112 L (v :: r) h))) := tm_r_getf (i := 23) (by decide +kernel) rfl (by decide +kernel)
theorem ws_R_alike_112 : tm_s M_R_alike d u0 Q u S n 112 L st h = tm_gI L 4 (fun x => tm_w M_R_alike d u0 Q u S n 114 L (.int x :: st) h) := tm_r_iload (j := 4) (by decide +kernel) rfl
theorem ws_R_alike_114 : tm_s M_R_alike d u0 Q u S n 114 L st h = tm_p1 st (fun i r => tm_pA r (fun a r => tm_cI (h a) (fun k f => vp_in i k ∧ tm_w M_R_alike d u0 Q u S n 115 L (.int (f i.toNatClampNeg) :: r) h))) := tm_r_iaload (by decide +kernel) rfl
theorem dd_R_alike_115 : decode (tm_cc M_R_alike) 115 = .ok (.invokevirtual 64, 3) := by decide +kernel
theorem ws_R_alike_115 : tm_s M_R_alike d u0 Q u S n 115 L st h = tm_T M_R_alike d u0 Q u 115 L st h := tm_r_invv dd_R_alike_115
theorem ws_R_alike_118 : tm_s M_R_alike d u0 Q u S n 118 L st h = tm_p1 st (fun y r => tm_p1 r (fun x r => (¬ x = y → tm_w M_R_alike d u0 Q u S n 125 L r h) ∧ (¬ ¬ x = y → tm_w M_R_alike d u0 Q u S n 121 L r h))) := tm_r_icne (off := 7) (by decide +kernel) rfl rfl
theorem ws_R_alike_121 : tm_s M_R_alike d u0 Q u S n 121 L st h = tm_w M_R_alike d u0 Q u S n 122 L (.int 1 :: st) h := tm_r_iconst (k := 1) (by decide +kernel) rfl (by decide)
theorem ws_R_alike_122 : tm_s M_R_alike d u0 Q u S n 122 L st h = tm_w M_R_alike d u0 Q u S n 126 L st h := tm_r_goto (off := 4) (by decide +kernel) rfl
theorem ws_R_alike_125 : tm_s M_R_alike d u0 Q u S n 125 L st h = tm_w M_R_alike d u0 Q u S n 126 L (.int 0 :: st) h := tm_r_iconst (k := 0) (by decide +kernel) rfl (by decide)
theorem ws_R_alike_126 : tm_s M_R_alike d u0 Q u S n 126 L st h = tm_p1 st (fun x r => tm_w M_R_alike d u0 Q u S n 127 (L.set 3 (some (.int x))) r h) := tm_r_istore_n (i := 3) (by decide +kernel) rfl rfl (by decide)
theorem ws_R_alike_127 : tm_s M_R_alike d u0 Q u S n 127 L st h = tm_gI L 4 (fun x => tm_w M_R_alike d u0 Q u S n 130 (L.set 4 (some (.int (x + 1)))) st h) := tm_r_iinc (j := 4) (k := 1) (by decide +kernel) rfl (by decide) (by decide)
theorem ws_R_alike_130 : tm_s M_R_alike d u0 Q u S n 130 L st h = tm_w M_R_alike d u0 Q u S n 79 L st h := tm_r_goto (off := (-51)) (by decide +kernel) rfl
theorem ws_R_alike_133 : tm_s M_R_alike d u0 Q u S n 133 L st h = tm_gI L 3 (fun x => tm_w M_R_alike d u0 Q u S n 134 L (.int x :: st) h) := tm_r_iload_n (i := 3) (by decide +kernel) rfl rfl
theorem ws_R_alike_134 : tm_s M_R_alike d u0 Q u S n 134 L st h = tm_p1 st (fun x r => r = [] ∧ (x = 0 ∨ x = 1) ∧ Q (.inl (some (.int x))) h) := tm_r_zret (by decide +kernel) rfl
theorem ws_R_same_0 : tm_s M_R_same d u0 Q u S n 0 L st h = tm_gA L 0 (fun x => tm_w M_R_same d u0 Q u S n 1 L (.ref x :: st) h) := tm_r_aload_n (i := 0) (by decide +kernel) rfl rfl
theorem ws_R_same_1 : tm_s M_R_same d u0 Q u S n 1 L st h = tm_gI L 1 (fun x => tm_w M_R_same d u0 Q u S n 2 L (.int x :: st) h) := tm_r_iload_n (i := 1) (by decide +kernel) rfl rfl
theorem dd_R_same_2 : decode (tm_cc M_R_same) 2 = .ok (.invokestatic 45, 3) := by decide +kernel
theorem ws_R_same_2 : tm_s M_R_same d u0 Q u S n 2 L st h = tm_T M_R_same d u0 Q u 2 L st h := tm_r_invs dd_R_same_2
theorem ws_R_same_5 : tm_s M_R_same d u0 Q u S n 5 L st h = tm_p1 st (fun x r => (¬ x = 0 → tm_w M_R_same d u0 Q u S n 15 L r h) ∧ (¬ ¬ x = 0 → tm_w M_R_same d u0 Q u S n 8 L r h)) := tm_r_ifne (off := 10) (by decide +kernel) rfl rfl
theorem ws_R_same_8 : tm_s M_R_same d u0 Q u S n 8 L st h = tm_gI L 2 (fun x => tm_w M_R_same d u0 Q u S n 9 L (.int x :: st) h) := tm_r_iload_n (i := 2) (by decide +kernel) rfl rfl
theorem dd_R_same_9 : decode (tm_cc M_R_same) 9 = .ok (.invokestatic 45, 3) := by decide +kernel
theorem ws_R_same_9 : tm_s M_R_same d u0 Q u S n 9 L st h = tm_T M_R_same d u0 Q u 9 L st h := tm_r_invs dd_R_same_9
theorem ws_R_same_12 : tm_s M_R_same d u0 Q u S n 12 L st h = tm_p1 st (fun x r => (x = 0 → tm_w M_R_same d u0 Q u S n 19 L r h) ∧ (¬ x = 0 → tm_w M_R_same d u0 Q u S n 15 L r h)) := tm_r_ifeq (off := 7) (by decide +kernel) rfl rfl
theorem ws_R_same_15 : tm_s M_R_same d u0 Q u S n 15 L st h = tm_w M_R_same d u0 Q u S n 16 L (.int 1 :: st) h := tm_r_iconst (k := 1) (by decide +kernel) rfl (by decide)
theorem ws_R_same_16 : tm_s M_R_same d u0 Q u S n 16 L st h = tm_w M_R_same d u0 Q u S n 20 L st h := tm_r_goto (off := 4) (by decide +kernel) rfl
theorem ws_R_same_19 : tm_s M_R_same d u0 Q u S n 19 L st h = tm_w M_R_same d u0 Q u S n 20 L (.int 0 :: st) h := tm_r_iconst (k := 0) (by decide +kernel) rfl (by decide)
theorem dd_R_same_20 : decode (tm_cc M_R_same) 20 = .ok (.invokevirtual 53, 3) := by decide +kernel
theorem ws_R_same_20 : tm_s M_R_same d u0 Q u S n 20 L st h = tm_T M_R_same d u0 Q u 20 L st h := tm_r_invv dd_R_same_20
theorem ws_R_same_23 : tm_s M_R_same d u0 Q u S n 23 L st h = tm_p1 st (fun x r => (x = 0 → tm_w M_R_same d u0 Q u S n 28 L r h) ∧ (¬ x = 0 → tm_w M_R_same d u0 Q u S n 26 L r h)) := tm_r_ifeq (off := 5) (by decide +kernel) rfl rfl
theorem ws_R_same_26 : tm_s M_R_same d u0 Q u S n 26 L st h = tm_w M_R_same d u0 Q u S n 27 L (.int 0 :: st) h := tm_r_iconst (k := 0) (by decide +kernel) rfl (by decide)
theorem ws_R_same_27 : tm_s M_R_same d u0 Q u S n 27 L st h = tm_p1 st (fun x r => r = [] ∧ (x = 0 ∨ x = 1) ∧ Q (.inl (some (.int x))) h) := tm_r_zret (by decide +kernel) rfl
theorem ws_R_same_28 : tm_s M_R_same d u0 Q u S n 28 L st h = tm_gA L 0 (fun x => tm_w M_R_same d u0 Q u S n 29 L (.ref x :: st) h) := tm_r_aload_n (i := 0) (by decide +kernel) rfl rfl
theorem ws_R_same_29 : tm_s M_R_same d u0 Q u S n 29 L st h = tm_gI L 1 (fun x => tm_w M_R_same d u0 Q u S n 30 L (.int x :: st) h) := tm_r_iload_n (i := 1) (by decide +kernel) rfl rfl
theorem ws_R_same_30 : tm_s M_R_same d u0 Q u S n 30 L st h = tm_gI L 2 (fun x => tm_w M_R_same d u0 Q u S n 31 L (.int x :: st) h) := tm_r_iload_n (i := 2) (by decide +kernel) rfl rfl
theorem dd_R_same_31 : decode (tm_cc M_R_same) 31 = .ok (.invokevirtual 127, 3) := by decide +kernel
theorem ws_R_same_31 : tm_s M_R_same d u0 Q u S n 31 L st h = tm_T M_R_same d u0 Q u 31 L st h := tm_r_invv dd_R_same_31
theorem ws_R_same_34 : tm_s M_R_same d u0 Q u S n 34 L st h = tm_p1 st (fun x r => r = [] ∧ (x = 0 ∨ x = 1) ∧ Q (.inl (some (.int x))) h) := tm_r_zret (by decide +kernel) rfl
theorem ws_R_match_0 : tm_s M_R_match d u0 Q u S n 0 L st h = tm_gA L 0 (fun x => tm_w M_R_match d u0 Q u S n 1 L (.ref x :: st) h) := tm_r_aload_n (i := 0) (by decide +kernel) rfl rfl
theorem ws_R_match_1 : tm_s M_R_match d u0 Q u S n 1 L st h = tm_gA L 0 (fun x => tm_w M_R_match d u0 Q u S n 2 L (.ref x :: st) h) := tm_r_aload_n (i := 0) (by decide +kernel) rfl rfl
theorem ws_R_match_2 : tm_s M_R_match d u0 Q u S n 2 L st h = tm_gI L 1 (fun x => tm_w M_R_match d u0 Q u S n 3 L (.int x :: st) h) := tm_r_iload_n (i := 1) (by decide +kernel) rfl rfl
theorem ws_R_match_3 : tm_s M_R_match d u0 Q u S n 3 L st h = tm_gI L 3 (fun x => tm_w M_R_match d u0 Q u S n 4 L (.int x :: st) h) := tm_r_iload_n (i := 3) (by decide +kernel) rfl rfl
theorem dd_R_match_4 : decode (tm_cc M_R_match) 4 = .ok (.invokevirtual 60, 3) := by decide +kernel
theorem ws_R_match_4 : tm_s M_R_match d u0 Q u S n 4 L st h = tm_T M_R_match d u0 Q u 4 L st h := tm_r_invv dd_R_match_4
theorem ws_R_match_7 : tm_s M_R_match d u0 Q u S n 7 L st h = tm_p1 st (fun x r => (¬ x = 0 → tm_w M_R_match d u0 Q u S n 17 L r h) ∧ (¬ ¬ x = 0 → tm_w M_R_match d u0 Q u S n 10 L r h)) := tm_r_ifne (off := 10) (by decide +kernel) rfl rfl
theorem ws_R_match_10 : tm_s M_R_match d u0 Q u S n 10 L st h = tm_gI L 2 (fun x => tm_w M_R_match d u0 Q u S n 11 L (.int x :: st) h) := tm_r_iload_n (i := 2) (by decide +kernel) rfl rfl
theorem dd_R_match_11 : decode (tm_cc M_R_match) 11 = .ok (.invokestatic 45, 3) := by decide +kernel
theorem ws_R_match_11 : tm_s M_R_match d u0 Q u S n 11 L st h = tm_T M_R_match d u0 Q u 11 L st h := tm_r_invs dd_R_match_11
theorem ws_R_match_14 : tm_s M_R_match d u0 Q u S n 14 L st h = tm_p1 st (fun x r => (x = 0 → tm_w M_R_match d u0 Q u S n 21 L r h) ∧ (¬ x = 0 → tm_w M_R_match d u0 Q u S n 17 L r h)) := tm_r_ifeq (off := 7) (by decide +kernel) rfl rfl
theorem ws_R_match_17 : tm_s M_R_match d u0 Q u S n 17 L st h = tm_w M_R_match d u0 Q u S n 18 L (.int 1 :: st) h := tm_r_iconst (k := 1) (by decide +kernel) rfl (by decide)
theorem ws_R_match_18 : tm_s M_R_match d u0 Q u S n 18 L st h = tm_w M_R_match d u0 Q u S n 22 L st h := tm_r_goto (off := 4) (by decide +kernel) rfl
theorem ws_R_match_21 : tm_s M_R_match d u0 Q u S n 21 L st h = tm_w M_R_match d u0 Q u S n 22 L (.int 0 :: st) h := tm_r_iconst (k := 0) (by decide +kernel) rfl (by decide)
theorem dd_R_match_22 : decode (tm_cc M_R_match) 22 = .ok (.invokevirtual 53, 3) := by decide +kernel
theorem ws_R_match_22 : tm_s M_R_match d u0 Q u S n 22 L st h = tm_T M_R_match d u0 Q u 22 L st h := tm_r_invv dd_R_match_22
theorem ws_R_match_25 : tm_s M_R_match d u0 Q u S n 25 L st h = tm_p1 st (fun x r => (x = 0 → tm_w M_R_match d u0 Q u S n 30 L r h) ∧ (¬ x = 0 → tm_w M_R_match d u0 Q u S n 28 L r h)) := tm_r_ifeq (off := 5) (by decide +kernel) rfl rfl
theorem ws_R_match_28 : tm_s M_R_match d u0 Q u S n 28 L st h = tm_w M_R_match d u0 Q u S n 29 L (.int 0 :: st) h := tm_r_iconst (k := 0) (by decide +kernel) rfl (by decide)
theorem ws_R_match_29 : tm_s M_R_match d u0 Q u S n 29 L st h = tm_p1 st (fun x r => r = [] ∧ Q (.inl (some (.int x))) h) := tm_r_iret (by decide +kernel) rfl
theorem ws_R_match_30 : tm_s M_R_match d u0 Q u S n 30 L st h = tm_gA L 0 (fun x => tm_w M_R_match d u0 Q u S n 31 L (.ref x :: st) h) := tm_r_aload_n (i := 0) (by decide +kernel) rfl rfl
theorem ws_R_match_31 : tm_s M_R_match d u0 Q u S n 31 L st h = tm_gI L 1 (fun x => tm_w M_R_match d u0 Q u S n 32 L (.int x :: st) h) := tm_r_iload_n (i := 1) (by decide +kernel) rfl rfl
theorem ws_R_match_32 : tm_s M_R_match d u0 Q u S n 32 L st h = tm_gI L 2 (fun x => tm_w M_R_match d u0 Q u S n 33 L (.int x :: st) h) := tm_r_iload_n (i := 2) (by decide +kernel) rfl rfl
theorem dd_R_match_33 : decode (tm_cc M_R_match) 33 = .ok (.invokevirtual 127, 3) := by decide +kernel
theorem ws_R_match_33 : tm_s M_R_match d u0 Q u S n 33 L st h = tm_T M_R_match d u0 Q u 33 L st h := tm_r_invv dd_R_match_33
theorem ws_R_match_36 : tm_s M_R_match d u0 Q u S n 36 L st h = tm_p1 st (fun x r => (¬ x = 0 → tm_w M_R_match d u0 Q u S n 41 L r h) ∧ (¬ ¬ x = 0 → tm_w M_R_match d u0 Q u S n 39 L r h)) := tm_r_ifne (off := 5) (by decide +kernel) rfl rfl
theorem ws_R_match_39 : tm_s M_R_match d u0 Q u S n 39 L st h = tm_w M_R_match d u0 Q u S n 40 L (.int (-1) :: st) h := tm_r_iconst (k := (-1)) (by decide +kernel) rfl (by decide)
theorem ws_R_match_40 : tm_s M_R_match d u0 Q u S n 40 L st h = tm_p1 st (fun x r => r = [] ∧ Q (.inl (some (.int x))) h) := tm_r_iret (by decide +kernel) rfl
theorem ws_R_match_41 : tm_s M_R_match d u0 Q u S n 41 L st h = tm_w M_R_match d u0 Q u S n 42 L (.int 0 :: st) h := tm_r_iconst (k := 0) (by decide +kernel) rfl (by decide)
theorem ws_R_match_42 : tm_s M_R_match d u0 Q u S n 42 L st h = tm_p1 st (fun x r => tm_w M_R_match d u0 Q u S n 44 (L.set 4 (some (.int x))) r h) := tm_r_istore (j := 4) (by decide +kernel) rfl (by decide)
theorem ws_R_match_44 : tm_s M_R_match d u0 Q u S n 44 L st h = tm_gA L 0 (fun x => tm_w M_R_match d u0 Q u S n 45 L (.ref x :: st) h) := tm_r_aload_n (i := 0) (by decide +kernel) rfl rfl
theorem ws_R_match_45 : tm_s M_R_match d u0 Q u S n 45 L st h = tm_pA st (fun a r => tm_cO (h a) 5 (fun fs => tm_fv fs 7 (fun v => tm_w M_R_match d u0 Q u S n 48 L (v :: r) h))) := tm_r_getf (i := 26) (by decide +kernel) rfl (by decide +kernel)
theorem ws_R_match_48 : tm_s M_R_match d u0 Q u S n 48 L st h = tm_gI L 4 (fun x => tm_w M_R_match d u0 Q u S n 50 L (.int x :: st) h) := tm_r_iload (j := 4) (by decide +kernel) rfl
theorem ws_R_match_50 : tm_s M_R_match d u0 Q u S n 50 L st h = tm_p1 st (fun i r => tm_pA r (fun a r => tm_cI (h a) (fun k f => vp_in i k ∧ tm_w M_R_match d u0 Q u S n 51 L (.int (f i.toNatClampNeg) :: r) h))) := tm_r_iaload (by decide +kernel) rfl
theorem ws_R_match_51 : tm_s M_R_match d u0 Q u S n 51 L st h = tm_gI L 3 (fun x => tm_w M_R_match d u0 Q u S n 52 L (.int x :: st) h) := tm_r_iload_n (i := 3) (by decide +kernel) rfl rfl
theorem ws_R_match_52 : tm_s M_R_match d u0 Q u S n 52 L st h = tm_p1 st (fun y r => tm_p1 r (fun x r => (x = y → tm_w M_R_match d u0 Q u S n 61 L r h) ∧ (¬ x = y → tm_w M_R_match d u0 Q u S n 55 L r h))) := tm_r_iceq (off := 9) (by decide +kernel) rfl rfl
theorem ws_R_match_55 : tm_s M_R_match d u0 Q u S n 55 L st h = tm_gI L 4 (fun x => tm_w M_R_match d u0 Q u S n 58 (L.set 4 (some (.int (x + 1)))) st h) := tm_r_iinc (j := 4) (k := 1) (by decide +kernel) rfl (by decide) (by decide)
theorem ws_R_match_58 : tm_s M_R_match d u0 Q u S n 58 L st h = tm_w M_R_match d u0 Q u S n 44 L st h := tm_r_goto (off := (-14)) (by decide +kernel) rfl
theorem ws_R_match_61 : tm_s M_R_match d u0 Q u S n 61 L st h = tm_gA L 0 (fun x => tm_w M_R_match d u0 Q u S n 62 L (.ref x :: st) h) := tm_r_aload_n (i := 0) (by decide +kernel) rfl rfl
theorem ws_R_match_62 : tm_s M_R_match d u0 Q u S n 62 L st h = tm_pA st (fun a r => tm_cO (h a) 5 (fun fs => tm_fv fs 5 (fun v => tm_w M_R_match d u0 Q u S n 65 L (v :: r) h))) := tm_r_getf (i := 23) (by decide +kernel) rfl (by decide +kernel)
theorem ws_R_match_65 : tm_s M_R_match d u0 Q u S n 65 L st h = tm_gI L 4 (fun x => tm_w M_R_match d u0 Q u S n 67 L (.int x :: st) h) := tm_r_iload (j := 4) (by decide +kernel) rfl
theorem ws_R_match_67 : tm_s M_R_match d u0 Q u S n 67 L st h = tm_p1 st (fun i r => tm_pA r (fun a r => tm_cI (h a) (fun k f => vp_in i k ∧ tm_w M_R_match d u0 Q u S n 68 L (.int (f i.toNatClampNeg) :: r) h))) := tm_r_iaload (by decide +kernel) rfl
theorem ws_R_match_68 : tm_s M_R_match d u0 Q u S n 68 L st h = tm_p1 st (fun x r => r = [] ∧ Q (.inl (some (.int x))) h) := tm_r_iret (by decide +kernel) rfl
theorem ws_R_moves_0 : tm_s M_R_moves d u0 Q u S n 0 L st h = tm_gA L 0 (fun x => tm_w M_R_moves d u0 Q u S n 1 L (.ref x :: st) h) := tm_r_aload_n (i := 0) (by decide +kernel) rfl rfl
theorem ws_R_moves_1 : tm_s M_R_moves d u0 Q u S n 1 L st h = tm_gA L 0 (fun x => tm_w M_R_moves d u0 Q u S n 2 L (.ref x :: st) h) := tm_r_aload_n (i := 0) (by decide +kernel) rfl rfl
theorem ws_R_moves_2 : tm_s M_R_moves d u0 Q u S n 2 L st h = tm_gI L 1 (fun x => tm_w M_R_moves d u0 Q u S n 3 L (.int x :: st) h) := tm_r_iload_n (i := 1) (by decide +kernel) rfl rfl
theorem ws_R_moves_3 : tm_s M_R_moves d u0 Q u S n 3 L st h = tm_gI L 2 (fun x => tm_w M_R_moves d u0 Q u S n 4 L (.int x :: st) h) := tm_r_iload_n (i := 2) (by decide +kernel) rfl rfl
theorem dd_R_moves_4 : decode (tm_cc M_R_moves) 4 = .ok (.invokevirtual 60, 3) := by decide +kernel
theorem ws_R_moves_4 : tm_s M_R_moves d u0 Q u S n 4 L st h = tm_T M_R_moves d u0 Q u 4 L st h := tm_r_invv dd_R_moves_4
theorem ws_R_moves_7 : tm_s M_R_moves d u0 Q u S n 7 L st h = tm_p1 st (fun x r => (¬ x = 0 → tm_w M_R_moves d u0 Q u S n 29 L r h) ∧ (¬ ¬ x = 0 → tm_w M_R_moves d u0 Q u S n 10 L r h)) := tm_r_ifne (off := 22) (by decide +kernel) rfl rfl
theorem ws_R_moves_10 : tm_s M_R_moves d u0 Q u S n 10 L st h = tm_gA L 0 (fun x => tm_w M_R_moves d u0 Q u S n 11 L (.ref x :: st) h) := tm_r_aload_n (i := 0) (by decide +kernel) rfl rfl
theorem ws_R_moves_11 : tm_s M_R_moves d u0 Q u S n 11 L st h = tm_gI L 1 (fun x => tm_w M_R_moves d u0 Q u S n 12 L (.int x :: st) h) := tm_r_iload_n (i := 1) (by decide +kernel) rfl rfl
theorem ws_R_moves_12 : tm_s M_R_moves d u0 Q u S n 12 L st h = tm_gI L 3 (fun x => tm_w M_R_moves d u0 Q u S n 13 L (.int x :: st) h) := tm_r_iload_n (i := 3) (by decide +kernel) rfl rfl
theorem dd_R_moves_13 : decode (tm_cc M_R_moves) 13 = .ok (.invokevirtual 60, 3) := by decide +kernel
theorem ws_R_moves_13 : tm_s M_R_moves d u0 Q u S n 13 L st h = tm_T M_R_moves d u0 Q u 13 L st h := tm_r_invv dd_R_moves_13
theorem ws_R_moves_16 : tm_s M_R_moves d u0 Q u S n 16 L st h = tm_p1 st (fun x r => (¬ x = 0 → tm_w M_R_moves d u0 Q u S n 29 L r h) ∧ (¬ ¬ x = 0 → tm_w M_R_moves d u0 Q u S n 19 L r h)) := tm_r_ifne (off := 13) (by decide +kernel) rfl rfl
theorem ws_R_moves_19 : tm_s M_R_moves d u0 Q u S n 19 L st h = tm_gA L 0 (fun x => tm_w M_R_moves d u0 Q u S n 20 L (.ref x :: st) h) := tm_r_aload_n (i := 0) (by decide +kernel) rfl rfl
theorem ws_R_moves_20 : tm_s M_R_moves d u0 Q u S n 20 L st h = tm_gI L 1 (fun x => tm_w M_R_moves d u0 Q u S n 21 L (.int x :: st) h) := tm_r_iload_n (i := 1) (by decide +kernel) rfl rfl
theorem ws_R_moves_21 : tm_s M_R_moves d u0 Q u S n 21 L st h = tm_gI L 4 (fun x => tm_w M_R_moves d u0 Q u S n 23 L (.int x :: st) h) := tm_r_iload (j := 4) (by decide +kernel) rfl
theorem dd_R_moves_23 : decode (tm_cc M_R_moves) 23 = .ok (.invokevirtual 115, 3) := by decide +kernel
theorem ws_R_moves_23 : tm_s M_R_moves d u0 Q u S n 23 L st h = tm_T M_R_moves d u0 Q u 23 L st h := tm_r_invv dd_R_moves_23
theorem ws_R_moves_26 : tm_s M_R_moves d u0 Q u S n 26 L st h = tm_p1 st (fun x r => (x = 0 → tm_w M_R_moves d u0 Q u S n 33 L r h) ∧ (¬ x = 0 → tm_w M_R_moves d u0 Q u S n 29 L r h)) := tm_r_ifeq (off := 7) (by decide +kernel) rfl rfl
theorem ws_R_moves_29 : tm_s M_R_moves d u0 Q u S n 29 L st h = tm_w M_R_moves d u0 Q u S n 30 L (.int 1 :: st) h := tm_r_iconst (k := 1) (by decide +kernel) rfl (by decide)
theorem ws_R_moves_30 : tm_s M_R_moves d u0 Q u S n 30 L st h = tm_w M_R_moves d u0 Q u S n 34 L st h := tm_r_goto (off := 4) (by decide +kernel) rfl
theorem ws_R_moves_33 : tm_s M_R_moves d u0 Q u S n 33 L st h = tm_w M_R_moves d u0 Q u S n 34 L (.int 0 :: st) h := tm_r_iconst (k := 0) (by decide +kernel) rfl (by decide)
theorem dd_R_moves_34 : decode (tm_cc M_R_moves) 34 = .ok (.invokevirtual 53, 3) := by decide +kernel
theorem ws_R_moves_34 : tm_s M_R_moves d u0 Q u S n 34 L st h = tm_T M_R_moves d u0 Q u 34 L st h := tm_r_invv dd_R_moves_34
theorem ws_R_moves_37 : tm_s M_R_moves d u0 Q u S n 37 L st h = tm_p1 st (fun x r => (x = 0 → tm_w M_R_moves d u0 Q u S n 42 L r h) ∧ (¬ x = 0 → tm_w M_R_moves d u0 Q u S n 40 L r h)) := tm_r_ifeq (off := 5) (by decide +kernel) rfl rfl
theorem ws_R_moves_40 : tm_s M_R_moves d u0 Q u S n 40 L st h = tm_w M_R_moves d u0 Q u S n 41 L (.int 0 :: st) h := tm_r_iconst (k := 0) (by decide +kernel) rfl (by decide)
theorem ws_R_moves_41 : tm_s M_R_moves d u0 Q u S n 41 L st h = tm_p1 st (fun x r => r = [] ∧ (x = 0 ∨ x = 1) ∧ Q (.inl (some (.int x))) h) := tm_r_zret (by decide +kernel) rfl
theorem ws_R_moves_42 : tm_s M_R_moves d u0 Q u S n 42 L st h = tm_gA L 0 (fun x => tm_w M_R_moves d u0 Q u S n 43 L (.ref x :: st) h) := tm_r_aload_n (i := 0) (by decide +kernel) rfl rfl
theorem ws_R_moves_43 : tm_s M_R_moves d u0 Q u S n 43 L st h = tm_gI L 1 (fun x => tm_w M_R_moves d u0 Q u S n 44 L (.int x :: st) h) := tm_r_iload_n (i := 1) (by decide +kernel) rfl rfl
theorem ws_R_moves_44 : tm_s M_R_moves d u0 Q u S n 44 L st h = tm_gI L 4 (fun x => tm_w M_R_moves d u0 Q u S n 46 L (.int x :: st) h) := tm_r_iload (j := 4) (by decide +kernel) rfl
theorem ws_R_moves_46 : tm_s M_R_moves d u0 Q u S n 46 L st h = tm_gI L 2 (fun x => tm_w M_R_moves d u0 Q u S n 47 L (.int x :: st) h) := tm_r_iload_n (i := 2) (by decide +kernel) rfl rfl
theorem ws_R_moves_47 : tm_s M_R_moves d u0 Q u S n 47 L st h = tm_gI L 3 (fun x => tm_w M_R_moves d u0 Q u S n 48 L (.int x :: st) h) := tm_r_iload_n (i := 3) (by decide +kernel) rfl rfl
theorem dd_R_moves_48 : decode (tm_cc M_R_moves) 48 = .ok (.invokevirtual 111, 3) := by decide +kernel
theorem ws_R_moves_48 : tm_s M_R_moves d u0 Q u S n 48 L st h = tm_T M_R_moves d u0 Q u 48 L st h := tm_r_invv dd_R_moves_48
theorem ws_R_moves_51 : tm_s M_R_moves d u0 Q u S n 51 L st h = tm_p1 st (fun x r => (x ≤ 0 → tm_w M_R_moves d u0 Q u S n 58 L r h) ∧ (¬ x ≤ 0 → tm_w M_R_moves d u0 Q u S n 54 L r h)) := tm_r_ifle (off := 7) (by decide +kernel) rfl rfl
theorem ws_R_moves_54 : tm_s M_R_moves d u0 Q u S n 54 L st h = tm_w M_R_moves d u0 Q u S n 55 L (.int 1 :: st) h := tm_r_iconst (k := 1) (by decide +kernel) rfl (by decide)
theorem ws_R_moves_55 : tm_s M_R_moves d u0 Q u S n 55 L st h = tm_w M_R_moves d u0 Q u S n 59 L st h := tm_r_goto (off := 4) (by decide +kernel) rfl
theorem ws_R_moves_58 : tm_s M_R_moves d u0 Q u S n 58 L st h = tm_w M_R_moves d u0 Q u S n 59 L (.int 0 :: st) h := tm_r_iconst (k := 0) (by decide +kernel) rfl (by decide)
theorem ws_R_moves_59 : tm_s M_R_moves d u0 Q u S n 59 L st h = tm_p1 st (fun x r => r = [] ∧ (x = 0 ∨ x = 1) ∧ Q (.inl (some (.int x))) h) := tm_r_zret (by decide +kernel) rfl
end WSR
