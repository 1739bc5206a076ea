section WSN
variable {d u0 u : Nat} {Q : tm_O → tm_Hp → Prop} {S : List Nat} {n : Nat} {L : List (Option Value)} {st : List Value} {h : tm_Hp}
theorem dd_N_init_0 : decode (tm_cc M_N_init) 0 = .ok (.aload_n 0, 1) := by decide +kernel
theorem dd_N_init_1 : decode (tm_cc M_N_init) 1 = .ok (.invokespecial 1, 3) := by decide +kernel
theorem dd_N_init_4 : decode (tm_cc M_N_init) 4 = .ok (.aload_n 0, 1) := by decide +kernel
theorem dd_N_init_5 : decode (tm_cc M_N_init) 5 = .ok (.iconst 3, 1) := by decide +kernel
theorem dd_N_init_6 : decode (tm_cc M_N_init) 6 = .ok (.anewarray 9, 3) := by decide +kernel
theorem dd_N_init_9 : decode (tm_cc M_N_init) 9 = .ok (.putfield 11, 3) := by decide +kernel
theorem dd_N_init_12 : decode (tm_cc M_N_init) 12 = .ok (.iconst 0, 1) := by decide +kernel
theorem dd_N_init_13 : decode (tm_cc M_N_init) 13 = .ok (.istore_n 1, 1) := by decide +kernel
theorem dd_N_init_14 : decode (tm_cc M_N_init) 14 = .ok (.iload_n 1, 1) := by decide +kernel
theorem dd_N_init_15 : decode (tm_cc M_N_init) 15 = .ok (.iconst 3, 1) := by decide +kernel
theorem dd_N_init_16 : decode (tm_cc M_N_init) 16 = .ok (.if_icmp .ge 22, 3) := by decide +kernel
theorem dd_N_init_19 : decode (tm_cc M_N_init) 19 = .ok (.aload_n 0, 1) := by decide +kernel
theorem dd_N_init_20 : decode (tm_cc M_N_init) 20 = .ok (.getfield 11, 3) := by decide +kernel
theorem dd_N_init_23 : decode (tm_cc M_N_init) 23 = .ok (.iload_n 1, 1) := by decide +kernel
theorem dd_N_init_24 : decode (tm_cc M_N_init) 24 = .ok (.new 9, 3) := by decide +kernel
theorem dd_N_init_27 : decode (tm_cc M_N_init) 27 = .ok (.dup, 1) := by decide +kernel
theorem dd_N_init_28 : decode (tm_cc M_N_init) 28 = .ok (.invokespecial 15, 3) := by decide +kernel
theorem dd_N_init_31 : decode (tm_cc M_N_init) 31 = .ok (.aastore, 1) := by decide +kernel
theorem dd_N_init_32 : decode (tm_cc M_N_init) 32 = .ok (.iinc 1 1, 3) := by decide +kernel
theorem dd_N_init_35 : decode (tm_cc M_N_init) 35 = .ok (.goto (-21), 3) := by decide +kernel
theorem dd_N_init_38 : decode (tm_cc M_N_init) 38 = .ok (.aload_n 0, 1) := by decide +kernel
theorem dd_N_init_39 : decode (tm_cc M_N_init) 39 = .ok (.new 9, 3) := by decide +kernel
theorem dd_N_init_42 : decode (tm_cc M_N_init) 42 = .ok (.dup, 1) := by decide +kernel
theorem dd_N_init_43 : decode (tm_cc M_N_init) 43 = .ok (.invokespecial 15, 3) := by decide +kernel
theorem dd_N_init_46 : decode (tm_cc M_N_init) 46 = .ok (.putfield 16, 3) := by decide +kernel
theorem dd_N_init_49 : decode (tm_cc M_N_init) 49 = .ok (.aload_n 0, 1) := by decide +kernel
theorem dd_N_init_50 : decode (tm_cc M_N_init) 50 = .ok (.new 20, 3) := by decide +kernel
theorem dd_N_init_53 : decode (tm_cc M_N_init) 53 = .ok (.dup, 1) := by decide +kernel
theorem dd_N_init_54 : decode (tm_cc M_N_init) 54 = .ok (.invokespecial 22, 3) := by decide +kernel
theorem dd_N_init_57 : decode (tm_cc M_N_init) 57 = .ok (.putfield 23, 3) := by decide +kernel
theorem dd_N_init_60 : decode (tm_cc M_N_init) 60 = .ok (.aload_n 0, 1) := by decide +kernel
theorem dd_N_init_61 : decode (tm_cc M_N_init) 61 = .ok (.new 20, 3) := by decide +kernel
theorem dd_N_init_64 : decode (tm_cc M_N_init) 64 = .ok (.dup, 1) := by decide +kernel
theorem dd_N_init_65 : decode (tm_cc M_N_init) 65 = .ok (.invokespecial 22, 3) := by decide +kernel
theorem dd_N_init_68 : decode (tm_cc M_N_init) 68 = .ok (.putfield 27, 3) := by decide +kernel
theorem dd_N_init_71 : decode (tm_cc M_N_init) 71 = .ok (.aload_n 0, 1) := by decide +kernel
theorem dd_N_init_72 : decode (tm_cc M_N_init) 72 = .ok (.new 30, 3) := by decide +kernel
theorem dd_N_init_75 : decode (tm_cc M_N_init) 75 = .ok (.dup, 1) := by decide +kernel
theorem dd_N_init_76 : decode (tm_cc M_N_init) 76 = .ok (.invokespecial 32, 3) := by decide +kernel
theorem dd_N_init_79 : decode (tm_cc M_N_init) 79 = .ok (.putfield 33, 3) := by decide +kernel
theorem dd_N_init_82 : decode (tm_cc M_N_init) 82 = .ok (.aload_n 0, 1) := by decide +kernel
theorem dd_N_init_83 : decode (tm_cc M_N_init) 83 = .ok (.new 37, 3) := by decide +kernel
theorem dd_N_init_86 : decode (tm_cc M_N_init) 86 = .ok (.dup, 1) := by decide +kernel
theorem dd_N_init_87 : decode (tm_cc M_N_init) 87 = .ok (.invokespecial 39, 3) := by decide +kernel
theorem dd_N_init_90 : decode (tm_cc M_N_init) 90 = .ok (.putfield 40, 3) := by decide +kernel
theorem dd_N_init_93 : decode (tm_cc M_N_init) 93 = .ok (.return_, 1) := by decide +kernel
theorem ws_N_vertex_0 : tm_s M_N_vertex d u0 Q u S n 0 L st h = tm_gA L 0 (fun x => tm_w M_N_vertex d u0 Q u S n 1 L (.ref x :: st) h) := tm_r_aload_n (i := 0) (by decide +kernel) rfl rfl
theorem ws_N_vertex_1 : tm_s M_N_vertex d u0 Q u S n 1 L st h = tm_gI L 1 (fun x => tm_w M_N_vertex d u0 Q u S n 2 L (.int x :: st) h) := tm_r_iload_n (i := 1) (by decide +kernel) rfl rfl
theorem dd_N_vertex_2 : decode (tm_cc M_N_vertex) 2 = .ok (.invokevirtual 44, 3) := by decide +kernel
theorem ws_N_vertex_2 : tm_s M_N_vertex d u0 Q u S n 2 L st h = tm_T M_N_vertex d u0 Q u 2 L st h := tm_r_invv dd_N_vertex_2
theorem ws_N_vertex_5 : tm_s M_N_vertex d u0 Q u S n 5 L st h = tm_pA st (fun x r => tm_w M_N_vertex d u0 Q u S n 6 (L.set 3 (some (.ref x))) r h) := tm_r_astore_n (i := 3) (by decide +kernel) rfl rfl (by decide)
theorem ws_N_vertex_6 : tm_s M_N_vertex d u0 Q u S n 6 L st h = tm_gI L 2 (fun x => tm_w M_N_vertex d u0 Q u S n 7 L (.int x :: st) h) := tm_r_iload_n (i := 2) (by decide +kernel) rfl rfl
theorem dd_N_vertex_7 : decode (tm_cc M_N_vertex) 7 = .ok (.invokestatic 48, 3) := by decide +kernel
theorem ws_N_vertex_7 : tm_s M_N_vertex d u0 Q u S n 7 L st h = tm_T M_N_vertex d u0 Q u 7 L st h := tm_r_invs dd_N_vertex_7
theorem ws_N_vertex_10 : tm_s M_N_vertex d u0 Q u S n 10 L st h = tm_gA L 3 (fun x => tm_w M_N_vertex d u0 Q u S n 11 L (.ref x :: st) h) := tm_r_aload_n (i := 3) (by decide +kernel) rfl rfl
theorem ws_N_vertex_11 : tm_s M_N_vertex d u0 Q u S n 11 L st h = tm_pA st (fun a r => tm_cO (h a) 1 (fun fs => tm_fv fs 0 (fun v => tm_w M_N_vertex d u0 Q u S n 14 L (v :: r) h))) := tm_r_getf (i := 52) (by decide +kernel) rfl (by decide +kernel)
theorem ws_N_vertex_14 : tm_s M_N_vertex d u0 Q u S n 14 L st h = tm_w M_N_vertex d u0 Q u S n 16 L (.int 7 :: st) h := tm_r_bipush (k := 7) (by decide +kernel) rfl (by decide)
theorem ws_N_vertex_16 : tm_s M_N_vertex d u0 Q u S n 16 L st h = tm_p1 st (fun y r => tm_p1 r (fun x r => (x < y → tm_w M_N_vertex d u0 Q u S n 29 L r h) ∧ (¬ x < y → tm_w M_N_vertex d u0 Q u S n 19 L r h))) := tm_r_iclt (off := 13) (by decide +kernel) rfl rfl
theorem dd_N_vertex_19 : decode (tm_cc M_N_vertex) 19 = .ok (.new 56, 3) := by decide +kernel
theorem ws_N_vertex_19 : tm_s M_N_vertex d u0 Q u S n 19 L st h = tm_T M_N_vertex d u0 Q u 19 L st h := tm_r_new dd_N_vertex_19
theorem dd_N_vertex_22 : decode (tm_cc M_N_vertex) 22 = .ok (.dup, 1) := by decide +kernel
theorem dd_N_vertex_23 : decode (tm_cc M_N_vertex) 23 = .ok (.ldc 58, 2) := by decide +kernel
theorem dd_N_vertex_25 : decode (tm_cc M_N_vertex) 25 = .ok (.invokespecial 60, 3) := by decide +kernel
theorem dd_N_vertex_28 : decode (tm_cc M_N_vertex) 28 = .ok (.athrow, 1) := by decide +kernel
theorem ws_N_vertex_29 : tm_s M_N_vertex d u0 Q u S n 29 L st h = tm_gA L 3 (fun x => tm_w M_N_vertex d u0 Q u S n 30 L (.ref x :: st) h) := tm_r_aload_n (i := 3) (by decide +kernel) rfl rfl
theorem ws_N_vertex_30 : tm_s M_N_vertex d u0 Q u S n 30 L st h = tm_gI L 2 (fun x => tm_w M_N_vertex d u0 Q u S n 31 L (.int x :: st) h) := tm_r_iload_n (i := 2) (by decide +kernel) rfl rfl
theorem dd_N_vertex_31 : decode (tm_cc M_N_vertex) 31 = .ok (.invokevirtual 63, 3) := by decide +kernel
theorem ws_N_vertex_31 : tm_s M_N_vertex d u0 Q u S n 31 L st h = tm_T M_N_vertex d u0 Q u 31 L st h := tm_r_invv dd_N_vertex_31
theorem ws_N_vertex_34 : tm_s M_N_vertex d u0 Q u S n 34 L st h = tm_p1 st (fun x r => r = [] ∧ Q (.inl (some (.int x))) h) := tm_r_iret (by decide +kernel) rfl
theorem ws_N_paint_0 : tm_s M_N_paint d u0 Q u S n 0 L st h = tm_gA L 0 (fun x => tm_w M_N_paint d u0 Q u S n 1 L (.ref x :: st) h) := tm_r_aload_n (i := 0) (by decide +kernel) rfl rfl
theorem ws_N_paint_1 : tm_s M_N_paint d u0 Q u S n 1 L st h = tm_gI L 1 (fun x => tm_w M_N_paint d u0 Q u S n 2 L (.int x :: st) h) := tm_r_iload_n (i := 1) (by decide +kernel) rfl rfl
theorem ws_N_paint_2 : tm_s M_N_paint d u0 Q u S n 2 L st h = tm_gI L 2 (fun x => tm_w M_N_paint d u0 Q u S n 3 L (.int x :: st) h) := tm_r_iload_n (i := 2) (by decide +kernel) rfl rfl
theorem dd_N_paint_3 : decode (tm_cc M_N_paint) 3 = .ok (.invokevirtual 67, 3) := by decide +kernel
theorem ws_N_paint_3 : tm_s M_N_paint d u0 Q u S n 3 L st h = tm_T M_N_paint d u0 Q u 3 L st h := tm_r_invv dd_N_paint_3
theorem ws_N_paint_6 : tm_s M_N_paint d u0 Q u S n 6 L st h = tm_pA st (fun x r => tm_w M_N_paint d u0 Q u S n 8 (L.set 4 (some (.ref x))) r h) := tm_r_astore (j := 4) (by decide +kernel) rfl (by decide)
theorem ws_N_paint_8 : tm_s M_N_paint d u0 Q u S n 8 L st h = tm_gI L 3 (fun x => tm_w M_N_paint d u0 Q u S n 9 L (.int x :: st) h) := tm_r_iload_n (i := 3) (by decide +kernel) rfl rfl
theorem dd_N_paint_9 : decode (tm_cc M_N_paint) 9 = .ok (.invokestatic 48, 3) := by decide +kernel
theorem ws_N_paint_9 : tm_s M_N_paint d u0 Q u S n 9 L st h = tm_T M_N_paint d u0 Q u 9 L st h := tm_r_invs dd_N_paint_9
theorem ws_N_paint_12 : tm_s M_N_paint d u0 Q u S n 12 L st h = tm_gA L 4 (fun x => tm_w M_N_paint d u0 Q u S n 14 L (.ref x :: st) h) := tm_r_aload (j := 4) (by decide +kernel) rfl
theorem ws_N_paint_14 : tm_s M_N_paint d u0 Q u S n 14 L st h = tm_pA st (fun a r => tm_cO (h a) 1 (fun fs => tm_fv fs 1 (fun v => tm_w M_N_paint d u0 Q u S n 17 L (v :: r) h))) := tm_r_getf (i := 71) (by decide +kernel) rfl (by decide +kernel)
theorem ws_N_paint_17 : tm_s M_N_paint d u0 Q u S n 17 L st h = tm_gI L 2 (fun x => tm_w M_N_paint d u0 Q u S n 18 L (.int x :: st) h) := tm_r_iload_n (i := 2) (by decide +kernel) rfl rfl
theorem ws_N_paint_18 : tm_s M_N_paint d u0 Q u S n 18 L st h = tm_p1 st (fun i r => tm_pA r (fun a r => tm_cI (h a) (fun k f => vp_in i k ∧ tm_w M_N_paint d u0 Q u S n 19 L (.int (f i.toNatClampNeg) :: r) h))) := tm_r_iaload (by decide +kernel) rfl
theorem ws_N_paint_19 : tm_s M_N_paint d u0 Q u S n 19 L st h = tm_p1 st (fun x r => tm_w M_N_paint d u0 Q u S n 21 (L.set 5 (some (.int x))) r h) := tm_r_istore (j := 5) (by decide +kernel) rfl (by decide)
theorem ws_N_paint_21 : tm_s M_N_paint d u0 Q u S n 21 L st h = tm_gA L 4 (fun x => tm_w M_N_paint d u0 Q u S n 23 L (.ref x :: st) h) := tm_r_aload (j := 4) (by decide +kernel) rfl
theorem ws_N_paint_23 : tm_s M_N_paint d u0 Q u S n 23 L st h = tm_pA st (fun a r => tm_cO (h a) 1 (fun fs => tm_fv fs 1 (fun v => tm_w M_N_paint d u0 Q u S n 26 L (v :: r) h))) := tm_r_getf (i := 71) (by decide +kernel) rfl (by decide +kernel)
theorem ws_N_paint_26 : tm_s M_N_paint d u0 Q u S n 26 L st h = tm_gI L 2 (fun x => tm_w M_N_paint d u0 Q u S n 27 L (.int x :: st) h) := tm_r_iload_n (i := 2) (by decide +kernel) rfl rfl
theorem ws_N_paint_27 : tm_s M_N_paint d u0 Q u S n 27 L st h = tm_gI L 3 (fun x => tm_w M_N_paint d u0 Q u S n 28 L (.int x :: st) h) := tm_r_iload_n (i := 3) (by decide +kernel) rfl rfl
theorem ws_N_paint_28 : tm_s M_N_paint d u0 Q u S n 28 L st h = tm_p1 st (fun x r => tm_p1 r (fun i r => tm_pA r (fun a r => tm_cI (h a) (fun k f => a < tm_K ∧ vp_in i k ∧ tm_w M_N_paint d u0 Q u S n 29 L r (tm_up h a (tm_i k (upd f i.toNatClampNeg x))))))) := tm_r_iastore (by decide +kernel) rfl
theorem ws_N_paint_29 : tm_s M_N_paint d u0 Q u S n 29 L st h = tm_gI L 5 (fun x => tm_w M_N_paint d u0 Q u S n 31 L (.int x :: st) h) := tm_r_iload (j := 5) (by decide +kernel) rfl
theorem ws_N_paint_31 : tm_s M_N_paint d u0 Q u S n 31 L st h = tm_p1 st (fun x r => r = [] ∧ Q (.inl (some (.int x))) h) := tm_r_iret (by decide +kernel) rfl
theorem ws_N_join_0 : tm_s M_N_join d u0 Q u S n 0 L st h = tm_gA L 0 (fun x => tm_w M_N_join d u0 Q u S n 1 L (.ref x :: st) h) := tm_r_aload_n (i := 0) (by decide +kernel) rfl rfl
theorem ws_N_join_1 : tm_s M_N_join d u0 Q u S n 1 L st h = tm_gI L 1 (fun x => tm_w M_N_join d u0 Q u S n 2 L (.int x :: st) h) := tm_r_iload_n (i := 1) (by decide +kernel) rfl rfl
theorem ws_N_join_2 : tm_s M_N_join d u0 Q u S n 2 L st h = tm_gI L 2 (fun x => tm_w M_N_join d u0 Q u S n 3 L (.int x :: st) h) := tm_r_iload_n (i := 2) (by decide +kernel) rfl rfl
theorem ws_N_join_3 : tm_s M_N_join d u0 Q u S n 3 L st h = tm_gI L 3 (fun x => tm_w M_N_join d u0 Q u S n 4 L (.int x :: st) h) := tm_r_iload_n (i := 3) (by decide +kernel) rfl rfl
theorem dd_N_join_4 : decode (tm_cc M_N_join) 4 = .ok (.invokevirtual 75, 3) := by decide +kernel
theorem ws_N_join_4 : tm_s M_N_join d u0 Q u S n 4 L st h = tm_T M_N_join d u0 Q u 4 L st h := tm_r_invv dd_N_join_4
theorem ws_N_join_7 : tm_s M_N_join d u0 Q u S n 7 L st h = tm_pA st (fun x r => tm_w M_N_join d u0 Q u S n 9 (L.set 4 (some (.ref x))) r h) := tm_r_astore (j := 4) (by decide +kernel) rfl (by decide)
theorem ws_N_join_9 : tm_s M_N_join d u0 Q u S n 9 L st h = tm_gA L 4 (fun x => tm_w M_N_join d u0 Q u S n 11 L (.ref x :: st) h) := tm_r_aload (j := 4) (by decide +kernel) rfl
theorem ws_N_join_11 : tm_s M_N_join d u0 Q u S n 11 L st h = tm_gI L 2 (fun x => tm_w M_N_join d u0 Q u S n 12 L (.int x :: st) h) := tm_r_iload_n (i := 2) (by decide +kernel) rfl rfl
theorem ws_N_join_12 : tm_s M_N_join d u0 Q u S n 12 L st h = tm_gI L 3 (fun x => tm_w M_N_join d u0 Q u S n 13 L (.int x :: st) h) := tm_r_iload_n (i := 3) (by decide +kernel) rfl rfl
theorem dd_N_join_13 : decode (tm_cc M_N_join) 13 = .ok (.invokevirtual 79, 3) := by decide +kernel
theorem ws_N_join_13 : tm_s M_N_join d u0 Q u S n 13 L st h = tm_T M_N_join d u0 Q u 13 L st h := tm_r_invv dd_N_join_13
theorem ws_N_join_16 : tm_s M_N_join d u0 Q u S n 16 L st h = tm_p1 st (fun x r => (x = 0 → tm_w M_N_join d u0 Q u S n 29 L r h) ∧ (¬ x = 0 → tm_w M_N_join d u0 Q u S n 19 L r h)) := tm_r_ifeq (off := 13) (by decide +kernel) rfl rfl
theorem dd_N_join_19 : decode (tm_cc M_N_join) 19 = .ok (.new 56, 3) := by decide +kernel
theorem ws_N_join_19 : tm_s M_N_join d u0 Q u S n 19 L st h = tm_T M_N_join d u0 Q u 19 L st h := tm_r_new dd_N_join_19
theorem dd_N_join_22 : decode (tm_cc M_N_join) 22 = .ok (.dup, 1) := by decide +kernel
theorem dd_N_join_23 : decode (tm_cc M_N_join) 23 = .ok (.ldc 83, 2) := by decide +kernel
theorem dd_N_join_25 : decode (tm_cc M_N_join) 25 = .ok (.invokespecial 60, 3) := by decide +kernel
theorem dd_N_join_28 : decode (tm_cc M_N_join) 28 = .ok (.athrow, 1) := by decide +kernel
theorem ws_N_join_29 : tm_s M_N_join d u0 Q u S n 29 L st h = tm_gA L 4 (fun x => tm_w M_N_join d u0 Q u S n 31 L (.ref x :: st) h) := tm_r_aload (j := 4) (by decide +kernel) rfl
theorem ws_N_join_31 : tm_s M_N_join d u0 Q u S n 31 L st h = tm_gI L 2 (fun x => tm_w M_N_join d u0 Q u S n 32 L (.int x :: st) h) := tm_r_iload_n (i := 2) (by decide +kernel) rfl rfl
theorem ws_N_join_32 : tm_s M_N_join d u0 Q u S n 32 L st h = tm_gI L 3 (fun x => tm_w M_N_join d u0 Q u S n 33 L (.int x :: st) h) := tm_r_iload_n (i := 3) (by decide +kernel) rfl rfl
theorem dd_N_join_33 : decode (tm_cc M_N_join) 33 = .ok (.invokevirtual 85, 3) := by decide +kernel
theorem ws_N_join_33 : tm_s M_N_join d u0 Q u S n 33 L st h = tm_T M_N_join d u0 Q u 33 L st h := tm_r_invv dd_N_join_33
theorem ws_N_join_36 : tm_s M_N_join d u0 Q u S n 36 L st h = tm_gA L 4 (fun x => tm_w M_N_join d u0 Q u S n 38 L (.ref x :: st) h) := tm_r_aload (j := 4) (by decide +kernel) rfl
theorem dd_N_join_38 : decode (tm_cc M_N_join) 38 = .ok (.invokevirtual 89, 3) := by decide +kernel
theorem ws_N_join_38 : tm_s M_N_join d u0 Q u S n 38 L st h = tm_T M_N_join d u0 Q u 38 L st h := tm_r_invv dd_N_join_38
theorem ws_N_join_41 : tm_s M_N_join d u0 Q u S n 41 L st h = tm_p1 st (fun x r => r = [] ∧ Q (.inl (some (.int x))) h) := tm_r_iret (by decide +kernel) rfl
theorem ws_N_part_0 : tm_s M_N_part d u0 Q u S n 0 L st h = tm_gA L 0 (fun x => tm_w M_N_part d u0 Q u S n 1 L (.ref x :: st) h) := tm_r_aload_n (i := 0) (by decide +kernel) rfl rfl
theorem ws_N_part_1 : tm_s M_N_part d u0 Q u S n 1 L st h = tm_gI L 1 (fun x => tm_w M_N_part d u0 Q u S n 2 L (.int x :: st) h) := tm_r_iload_n (i := 1) (by decide +kernel) rfl rfl
theorem ws_N_part_2 : tm_s M_N_part d u0 Q u S n 2 L st h = tm_gI L 2 (fun x => tm_w M_N_part d u0 Q u S n 3 L (.int x :: st) h) := tm_r_iload_n (i := 2) (by decide +kernel) rfl rfl
theorem ws_N_part_3 : tm_s M_N_part d u0 Q u S n 3 L st h = tm_gI L 3 (fun x => tm_w M_N_part d u0 Q u S n 4 L (.int x :: st) h) := tm_r_iload_n (i := 3) (by decide +kernel) rfl rfl
theorem dd_N_part_4 : decode (tm_cc M_N_part) 4 = .ok (.invokevirtual 75, 3) := by decide +kernel
theorem ws_N_part_4 : tm_s M_N_part d u0 Q u S n 4 L st h = tm_T M_N_part d u0 Q u 4 L st h := tm_r_invv dd_N_part_4
theorem ws_N_part_7 : tm_s M_N_part d u0 Q u S n 7 L st h = tm_pA st (fun x r => tm_w M_N_part d u0 Q u S n 9 (L.set 4 (some (.ref x))) r h) := tm_r_astore (j := 4) (by decide +kernel) rfl (by decide)
theorem ws_N_part_9 : tm_s M_N_part d u0 Q u S n 9 L st h = tm_gA L 4 (fun x => tm_w M_N_part d u0 Q u S n 11 L (.ref x :: st) h) := tm_r_aload (j := 4) (by decide +kernel) rfl
theorem ws_N_part_11 : tm_s M_N_part d u0 Q u S n 11 L st h = tm_gI L 2 (fun x => tm_w M_N_part d u0 Q u S n 12 L (.int x :: st) h) := tm_r_iload_n (i := 2) (by decide +kernel) rfl rfl
theorem ws_N_part_12 : tm_s M_N_part d u0 Q u S n 12 L st h = tm_gI L 3 (fun x => tm_w M_N_part d u0 Q u S n 13 L (.int x :: st) h) := tm_r_iload_n (i := 3) (by decide +kernel) rfl rfl
theorem dd_N_part_13 : decode (tm_cc M_N_part) 13 = .ok (.invokevirtual 79, 3) := by decide +kernel
theorem ws_N_part_13 : tm_s M_N_part d u0 Q u S n 13 L st h = tm_T M_N_part d u0 Q u 13 L st h := tm_r_invv dd_N_part_13
theorem ws_N_part_16 : tm_s M_N_part d u0 Q u S n 16 L st h = tm_p1 st (fun x r => (¬ x = 0 → tm_w M_N_part d u0 Q u S n 29 L r h) ∧ (¬ ¬ x = 0 → tm_w M_N_part d u0 Q u S n 19 L r h)) := tm_r_ifne (off := 13) (by decide +kernel) rfl rfl
theorem dd_N_part_19 : decode (tm_cc M_N_part) 19 = .ok (.new 56, 3) := by decide +kernel
theorem ws_N_part_19 : tm_s M_N_part d u0 Q u S n 19 L st h = tm_T M_N_part d u0 Q u 19 L st h := tm_r_new dd_N_part_19
theorem dd_N_part_22 : decode (tm_cc M_N_part) 22 = .ok (.dup, 1) := by decide +kernel
theorem dd_N_part_23 : decode (tm_cc M_N_part) 23 = .ok (.ldc 93, 2) := by decide +kernel
theorem dd_N_part_25 : decode (tm_cc M_N_part) 25 = .ok (.invokespecial 60, 3) := by decide +kernel
theorem dd_N_part_28 : decode (tm_cc M_N_part) 28 = .ok (.athrow, 1) := by decide +kernel
theorem ws_N_part_29 : tm_s M_N_part d u0 Q u S n 29 L st h = tm_gA L 4 (fun x => tm_w M_N_part d u0 Q u S n 31 L (.ref x :: st) h) := tm_r_aload (j := 4) (by decide +kernel) rfl
theorem ws_N_part_31 : tm_s M_N_part d u0 Q u S n 31 L st h = tm_gI L 2 (fun x => tm_w M_N_part d u0 Q u S n 32 L (.int x :: st) h) := tm_r_iload_n (i := 2) (by decide +kernel) rfl rfl
theorem ws_N_part_32 : tm_s M_N_part d u0 Q u S n 32 L st h = tm_gI L 3 (fun x => tm_w M_N_part d u0 Q u S n 33 L (.int x :: st) h) := tm_r_iload_n (i := 3) (by decide +kernel) rfl rfl
theorem dd_N_part_33 : decode (tm_cc M_N_part) 33 = .ok (.invokevirtual 85, 3) := by decide +kernel
theorem ws_N_part_33 : tm_s M_N_part d u0 Q u S n 33 L st h = tm_T M_N_part d u0 Q u 33 L st h := tm_r_invv dd_N_part_33
theorem ws_N_part_36 : tm_s M_N_part d u0 Q u S n 36 L st h = tm_gA L 4 (fun x => tm_w M_N_part d u0 Q u S n 38 L (.ref x :: st) h) := tm_r_aload (j := 4) (by decide +kernel) rfl
theorem dd_N_part_38 : decode (tm_cc M_N_part) 38 = .ok (.invokevirtual 89, 3) := by decide +kernel
theorem ws_N_part_38 : tm_s M_N_part d u0 Q u S n 38 L st h = tm_T M_N_part d u0 Q u 38 L st h := tm_r_invv dd_N_part_38
theorem ws_N_part_41 : tm_s M_N_part d u0 Q u S n 41 L st h = tm_p1 st (fun x r => r = [] ∧ Q (.inl (some (.int x))) h) := tm_r_iret (by decide +kernel) rfl
theorem ws_N_clear_0 : tm_s M_N_clear d u0 Q u S n 0 L st h = tm_gA L 0 (fun x => tm_w M_N_clear d u0 Q u S n 1 L (.ref x :: st) h) := tm_r_aload_n (i := 0) (by decide +kernel) rfl rfl
theorem ws_N_clear_1 : tm_s M_N_clear d u0 Q u S n 1 L st h = tm_gI L 1 (fun x => tm_w M_N_clear d u0 Q u S n 2 L (.int x :: st) h) := tm_r_iload_n (i := 1) (by decide +kernel) rfl rfl
theorem dd_N_clear_2 : decode (tm_cc M_N_clear) 2 = .ok (.invokevirtual 44, 3) := by decide +kernel
theorem ws_N_clear_2 : tm_s M_N_clear d u0 Q u S n 2 L st h = tm_T M_N_clear d u0 Q u 2 L st h := tm_r_invv dd_N_clear_2
theorem ws_N_clear_5 : tm_s M_N_clear d u0 Q u S n 5 L st h = tm_pA st (fun x r => tm_w M_N_clear d u0 Q u S n 6 (L.set 2 (some (.ref x))) r h) := tm_r_astore_n (i := 2) (by decide +kernel) rfl rfl (by decide)
theorem ws_N_clear_6 : tm_s M_N_clear d u0 Q u S n 6 L st h = tm_gA L 2 (fun x => tm_w M_N_clear d u0 Q u S n 7 L (.ref x :: st) h) := tm_r_aload_n (i := 2) (by decide +kernel) rfl rfl
theorem ws_N_clear_7 : tm_s M_N_clear d u0 Q u S n 7 L st h = tm_pA st (fun a r => tm_cO (h a) 1 (fun fs => tm_fv fs 0 (fun v => tm_w M_N_clear d u0 Q u S n 10 L (v :: r) h))) := tm_r_getf (i := 52) (by decide +kernel) rfl (by decide +kernel)
theorem ws_N_clear_10 : tm_s M_N_clear d u0 Q u S n 10 L st h = tm_p1 st (fun x r => tm_w M_N_clear d u0 Q u S n 11 (L.set 3 (some (.int x))) r h) := tm_r_istore_n (i := 3) (by decide +kernel) rfl rfl (by decide)
theorem ws_N_clear_11 : tm_s M_N_clear d u0 Q u S n 11 L st h = tm_gA L 2 (fun x => tm_w M_N_clear d u0 Q u S n 12 L (.ref x :: st) h) := tm_r_aload_n (i := 2) (by decide +kernel) rfl rfl
theorem ws_N_clear_12 : tm_s M_N_clear d u0 Q u S n 12 L st h = tm_w M_N_clear d u0 Q u S n 13 L (.int 0 :: st) h := tm_r_iconst (k := 0) (by decide +kernel) rfl (by decide)
theorem ws_N_clear_13 : tm_s M_N_clear d u0 Q u S n 13 L st h = tm_p1 st (fun v r => tm_pA r (fun a r => tm_cO (h a) 1 (fun fs => 0 < fs.length ∧ tm_w M_N_clear d u0 Q u S n 16 L r (tm_up h a (tm_o 1 (fs.set 0 (.int v))))))) := tm_r_puti (i := 52) (by decide +kernel) rfl (by decide +kernel)
theorem ws_N_clear_16 : tm_s M_N_clear d u0 Q u S n 16 L st h = tm_gI L 3 (fun x => tm_w M_N_clear d u0 Q u S n 17 L (.int x :: st) h) := tm_r_iload_n (i := 3) (by decide +kernel) rfl rfl
theorem ws_N_clear_17 : tm_s M_N_clear d u0 Q u S n 17 L st h = tm_p1 st (fun x r => r = [] ∧ Q (.inl (some (.int x))) h) := tm_r_iret (by decide +kernel) rfl
theorem ws_N_copy_0 : tm_s M_N_copy d u0 Q u S n 0 L st h = tm_gA L 0 (fun x => tm_w M_N_copy d u0 Q u S n 1 L (.ref x :: st) h) := tm_r_aload_n (i := 0) (by decide +kernel) rfl rfl
theorem ws_N_copy_1 : tm_s M_N_copy d u0 Q u S n 1 L st h = tm_gI L 1 (fun x => tm_w M_N_copy d u0 Q u S n 2 L (.int x :: st) h) := tm_r_iload_n (i := 1) (by decide +kernel) rfl rfl
theorem dd_N_copy_2 : decode (tm_cc M_N_copy) 2 = .ok (.invokevirtual 44, 3) := by decide +kernel
theorem ws_N_copy_2 : tm_s M_N_copy d u0 Q u S n 2 L st h = tm_T M_N_copy d u0 Q u 2 L st h := tm_r_invv dd_N_copy_2
theorem ws_N_copy_5 : tm_s M_N_copy d u0 Q u S n 5 L st h = tm_pA st (fun x r => tm_w M_N_copy d u0 Q u S n 6 (L.set 3 (some (.ref x))) r h) := tm_r_astore_n (i := 3) (by decide +kernel) rfl rfl (by decide)
theorem ws_N_copy_6 : tm_s M_N_copy d u0 Q u S n 6 L st h = tm_gA L 3 (fun x => tm_w M_N_copy d u0 Q u S n 7 L (.ref x :: st) h) := tm_r_aload_n (i := 3) (by decide +kernel) rfl rfl
theorem ws_N_copy_7 : tm_s M_N_copy d u0 Q u S n 7 L st h = tm_gA L 0 (fun x => tm_w M_N_copy d u0 Q u S n 8 L (.ref x :: st) h) := tm_r_aload_n (i := 0) (by decide +kernel) rfl rfl
theorem ws_N_copy_8 : tm_s M_N_copy d u0 Q u S n 8 L st h = tm_gI L 2 (fun x => tm_w M_N_copy d u0 Q u S n 9 L (.int x :: st) h) := tm_r_iload_n (i := 2) (by decide +kernel) rfl rfl
theorem dd_N_copy_9 : decode (tm_cc M_N_copy) 9 = .ok (.invokevirtual 44, 3) := by decide +kernel
theorem ws_N_copy_9 : tm_s M_N_copy d u0 Q u S n 9 L st h = tm_T M_N_copy d u0 Q u 9 L st h := tm_r_invv dd_N_copy_9
theorem dd_N_copy_12 : decode (tm_cc M_N_copy) 12 = .ok (.invokevirtual 95, 3) := by decide +kernel
theorem ws_N_copy_12 : tm_s M_N_copy d u0 Q u S n 12 L st h = tm_T M_N_copy d u0 Q u 12 L st h := tm_r_invv dd_N_copy_12
theorem ws_N_copy_15 : tm_s M_N_copy d u0 Q u S n 15 L st h = tm_gA L 3 (fun x => tm_w M_N_copy d u0 Q u S n 16 L (.ref x :: st) h) := tm_r_aload_n (i := 3) (by decide +kernel) rfl rfl
theorem ws_N_copy_16 : tm_s M_N_copy d u0 Q u S n 16 L st h = tm_pA st (fun a r => tm_cO (h a) 1 (fun fs => tm_fv fs 0 (fun v => tm_w M_N_copy d u0 Q u S n 19 L (v :: r) h))) := tm_r_getf (i := 52) (by decide +kernel) rfl (by decide +kernel)
theorem ws_N_copy_19 : tm_s M_N_copy d u0 Q u S n 19 L st h = tm_p1 st (fun x r => r = [] ∧ Q (.inl (some (.int x))) h) := tm_r_iret (by decide +kernel) rfl
theorem ws_N_turn_0 : tm_s M_N_turn d u0 Q u S n 0 L st h = tm_gA L 0 (fun x => tm_w M_N_turn d u0 Q u S n 1 L (.ref x :: st) h) := tm_r_aload_n (i := 0) (by decide +kernel) rfl rfl
theorem ws_N_turn_1 : tm_s M_N_turn d u0 Q u S n 1 L st h = tm_gI L 1 (fun x => tm_w M_N_turn d u0 Q u S n 2 L (.int x :: st) h) := tm_r_iload_n (i := 1) (by decide +kernel) rfl rfl
theorem dd_N_turn_2 : decode (tm_cc M_N_turn) 2 = .ok (.invokevirtual 44, 3) := by decide +kernel
theorem ws_N_turn_2 : tm_s M_N_turn d u0 Q u S n 2 L st h = tm_T M_N_turn d u0 Q u 2 L st h := tm_r_invv dd_N_turn_2
theorem ws_N_turn_5 : tm_s M_N_turn d u0 Q u S n 5 L st h = tm_pA st (fun x r => tm_w M_N_turn d u0 Q u S n 6 (L.set 2 (some (.ref x))) r h) := tm_r_astore_n (i := 2) (by decide +kernel) rfl rfl (by decide)
theorem ws_N_turn_6 : tm_s M_N_turn d u0 Q u S n 6 L st h = tm_gA L 2 (fun x => tm_w M_N_turn d u0 Q u S n 7 L (.ref x :: st) h) := tm_r_aload_n (i := 2) (by decide +kernel) rfl rfl
theorem dd_N_turn_7 : decode (tm_cc M_N_turn) 7 = .ok (.invokevirtual 99, 3) := by decide +kernel
theorem ws_N_turn_7 : tm_s M_N_turn d u0 Q u S n 7 L st h = tm_T M_N_turn d u0 Q u 7 L st h := tm_r_invv dd_N_turn_7
theorem ws_N_turn_10 : tm_s M_N_turn d u0 Q u S n 10 L st h = tm_gA L 2 (fun x => tm_w M_N_turn d u0 Q u S n 11 L (.ref x :: st) h) := tm_r_aload_n (i := 2) (by decide +kernel) rfl rfl
theorem dd_N_turn_11 : decode (tm_cc M_N_turn) 11 = .ok (.invokevirtual 89, 3) := by decide +kernel
theorem ws_N_turn_11 : tm_s M_N_turn d u0 Q u S n 11 L st h = tm_T M_N_turn d u0 Q u 11 L st h := tm_r_invv dd_N_turn_11
theorem ws_N_turn_14 : tm_s M_N_turn d u0 Q u S n 14 L st h = tm_p1 st (fun x r => r = [] ∧ Q (.inl (some (.int x))) h) := tm_r_iret (by decide +kernel) rfl
theorem ws_N_settle_0 : tm_s M_N_settle d u0 Q u S n 0 L st h = tm_gA L 0 (fun x => tm_w M_N_settle d u0 Q u S n 1 L (.ref x :: st) h) := tm_r_aload_n (i := 0) (by decide +kernel) rfl rfl
theorem ws_N_settle_1 : tm_s M_N_settle d u0 Q u S n 1 L st h = tm_gI L 1 (fun x => tm_w M_N_settle d u0 Q u S n 2 L (.int x :: st) h) := tm_r_iload_n (i := 1) (by decide +kernel) rfl rfl
theorem dd_N_settle_2 : decode (tm_cc M_N_settle) 2 = .ok (.invokevirtual 44, 3) := by decide +kernel
theorem ws_N_settle_2 : tm_s M_N_settle d u0 Q u S n 2 L st h = tm_T M_N_settle d u0 Q u 2 L st h := tm_r_invv dd_N_settle_2
theorem ws_N_settle_5 : tm_s M_N_settle d u0 Q u S n 5 L st h = tm_pA st (fun x r => tm_w M_N_settle d u0 Q u S n 6 (L.set 2 (some (.ref x))) r h) := tm_r_astore_n (i := 2) (by decide +kernel) rfl rfl (by decide)
theorem ws_N_settle_6 : tm_s M_N_settle d u0 Q u S n 6 L st h = tm_gA L 0 (fun x => tm_w M_N_settle d u0 Q u S n 7 L (.ref x :: st) h) := tm_r_aload_n (i := 0) (by decide +kernel) rfl rfl
theorem ws_N_settle_7 : tm_s M_N_settle d u0 Q u S n 7 L st h = tm_pA st (fun a r => tm_cO (h a) 0 (fun fs => tm_fv fs 2 (fun v => tm_w M_N_settle d u0 Q u S n 10 L (v :: r) h))) := tm_r_getf (i := 23) (by decide +kernel) rfl (by decide +kernel)
theorem ws_N_settle_10 : tm_s M_N_settle d u0 Q u S n 10 L st h = tm_gA L 2 (fun x => tm_w M_N_settle d u0 Q u S n 11 L (.ref x :: st) h) := tm_r_aload_n (i := 2) (by decide +kernel) rfl rfl
theorem dd_N_settle_11 : decode (tm_cc M_N_settle) 11 = .ok (.invokevirtual 102, 3) := by decide +kernel
theorem ws_N_settle_11 : tm_s M_N_settle d u0 Q u S n 11 L st h = tm_T M_N_settle d u0 Q u 11 L st h := tm_r_invv dd_N_settle_11
theorem ws_N_settle_14 : tm_s M_N_settle d u0 Q u S n 14 L st h = tm_gA L 0 (fun x => tm_w M_N_settle d u0 Q u S n 15 L (.ref x :: st) h) := tm_r_aload_n (i := 0) (by decide +kernel) rfl rfl
theorem ws_N_settle_15 : tm_s M_N_settle d u0 Q u S n 15 L st h = tm_pA st (fun a r => tm_cO (h a) 0 (fun fs => tm_fv fs 1 (fun v => tm_w M_N_settle d u0 Q u S n 18 L (v :: r) h))) := tm_r_getf (i := 16) (by decide +kernel) rfl (by decide +kernel)
theorem ws_N_settle_18 : tm_s M_N_settle d u0 Q u S n 18 L st h = tm_gA L 2 (fun x => tm_w M_N_settle d u0 Q u S n 19 L (.ref x :: st) h) := tm_r_aload_n (i := 2) (by decide +kernel) rfl rfl
theorem dd_N_settle_19 : decode (tm_cc M_N_settle) 19 = .ok (.invokevirtual 95, 3) := by decide +kernel
theorem ws_N_settle_19 : tm_s M_N_settle d u0 Q u S n 19 L st h = tm_T M_N_settle d u0 Q u 19 L st h := tm_r_invv dd_N_settle_19
theorem ws_N_settle_22 : tm_s M_N_settle d u0 Q u S n 22 L st h = tm_gA L 2 (fun x => tm_w M_N_settle d u0 Q u S n 23 L (.ref x :: st) h) := tm_r_aload_n (i := 2) (by decide +kernel) rfl rfl
theorem ws_N_settle_23 : tm_s M_N_settle d u0 Q u S n 23 L st h = tm_gA L 0 (fun x => tm_w M_N_settle d u0 Q u S n 24 L (.ref x :: st) h) := tm_r_aload_n (i := 0) (by decide +kernel) rfl rfl
theorem ws_N_settle_24 : tm_s M_N_settle d u0 Q u S n 24 L st h = tm_pA st (fun a r => tm_cO (h a) 0 (fun fs => tm_fv fs 1 (fun v => tm_w M_N_settle d u0 Q u S n 27 L (v :: r) h))) := tm_r_getf (i := 16) (by decide +kernel) rfl (by decide +kernel)
theorem ws_N_settle_27 : tm_s M_N_settle d u0 Q u S n 27 L st h = tm_gA L 0 (fun x => tm_w M_N_settle d u0 Q u S n 28 L (.ref x :: st) h) := tm_r_aload_n (i := 0) (by decide +kernel) rfl rfl
theorem ws_N_settle_28 : tm_s M_N_settle d u0 Q u S n 28 L st h = tm_pA st (fun a r => tm_cO (h a) 0 (fun fs => tm_fv fs 2 (fun v => tm_w M_N_settle d u0 Q u S n 31 L (v :: r) h))) := tm_r_getf (i := 23) (by decide +kernel) rfl (by decide +kernel)
theorem ws_N_settle_31 : tm_s M_N_settle d u0 Q u S n 31 L st h = tm_pA st (fun a r => tm_cO (h a) 2 (fun fs => tm_fv fs 1 (fun v => tm_w M_N_settle d u0 Q u S n 34 L (v :: r) h))) := tm_r_getf (i := 105) (by decide +kernel) rfl (by decide +kernel)
theorem dd_N_settle_34 : decode (tm_cc M_N_settle) 34 = .ok (.invokevirtual 108, 3) := by decide +kernel
theorem ws_N_settle_34 : tm_s M_N_settle d u0 Q u S n 34 L st h = tm_T M_N_settle d u0 Q u 34 L st h := tm_r_invv dd_N_settle_34
theorem ws_N_settle_37 : tm_s M_N_settle d u0 Q u S n 37 L st h = tm_w M_N_settle d u0 Q u S n 38 L (.int 0 :: st) h := tm_r_iconst (k := 0) (by decide +kernel) rfl (by decide)
theorem ws_N_settle_38 : tm_s M_N_settle d u0 Q u S n 38 L st h = tm_p1 st (fun x r => tm_w M_N_settle d u0 Q u S n 39 (L.set 3 (some (.int x))) r h) := tm_r_istore_n (i := 3) (by decide +kernel) rfl rfl (by decide)
theorem ws_N_settle_39 : tm_s M_N_settle d u0 Q u S n 39 L st h = tm_w M_N_settle d u0 Q u S n 40 L (.int 0 :: st) h := tm_r_iconst (k := 0) (by decide +kernel) rfl (by decide)
theorem ws_N_settle_40 : tm_s M_N_settle d u0 Q u S n 40 L st h = tm_p1 st (fun x r => tm_w M_N_settle d u0 Q u S n 42 (L.set 4 (some (.int x))) r h) := tm_r_istore (j := 4) (by decide +kernel) rfl (by decide)
theorem ws_N_settle_42 : tm_s M_N_settle d u0 Q u S n 42 L st h = tm_gI L 4 (fun x => tm_w M_N_settle d u0 Q u S n 44 L (.int x :: st) h) := tm_r_iload (j := 4) (by decide +kernel) rfl
theorem ws_N_settle_44 : tm_s M_N_settle d u0 Q u S n 44 L st h = tm_gA L 2 (fun x => tm_w M_N_settle d u0 Q u S n 45 L (.ref x :: st) h) := tm_r_aload_n (i := 2) (by decide +kernel) rfl rfl
theorem ws_N_settle_45 : tm_s M_N_settle d u0 Q u S n 45 L st h = tm_pA st (fun a r => tm_cO (h a) 1 (fun fs => tm_fv fs 0 (fun v => tm_w M_N_settle d u0 Q u S n 48 L (v :: r) h))) := tm_r_getf (i := 52) (by decide +kernel) rfl (by decide +kernel)
theorem ws_N_settle_48 : tm_s M_N_settle d u0 Q u S n 48 L st h = tm_p1 st (fun y r => tm_p1 r (fun x r => (y ≤ x → tm_w M_N_settle d u0 Q u S n 75 L r h) ∧ (¬ y ≤ x → tm_w M_N_settle d u0 Q u S n 51 L r h))) := tm_r_icge (off := 27) (by decide +kernel) rfl rfl
theorem ws_N_settle_51 : tm_s M_N_settle d u0 Q u S n 51 L st h = tm_gA L 0 (fun x => tm_w M_N_settle d u0 Q u S n 52 L (.ref x :: st) h) := tm_r_aload_n (i := 0) (by decide +kernel) rfl rfl
theorem ws_N_settle_52 : tm_s M_N_settle d u0 Q u S n 52 L st h = tm_pA st (fun a r => tm_cO (h a) 0 (fun fs => tm_fv fs 2 (fun v => tm_w M_N_settle d u0 Q u S n 55 L (v :: r) h))) := tm_r_getf (i := 23) (by decide +kernel) rfl (by decide +kernel)
theorem ws_N_settle_55 : tm_s M_N_settle d u0 Q u S n 55 L st h = tm_pA st (fun a r => tm_cO (h a) 2 (fun fs => tm_fv fs 2 (fun v => tm_w M_N_settle d u0 Q u S n 58 L (v :: r) h))) := tm_r_getf (i := 112) (by decide +kernel) rfl (by decide +kernel)
theorem ws_N_settle_58 : tm_s M_N_settle d u0 Q u S n 58 L st h = tm_gI L 4 (fun x => tm_w M_N_settle d u0 Q u S n 60 L (.int x :: st) h) := tm_r_iload (j := 4) (by decide +kernel) rfl
theorem ws_N_settle_60 : tm_s M_N_settle d u0 Q u S n 60 L st h = tm_p1 st (fun i r => tm_pA r (fun a r => tm_cI (h a) (fun k f => vp_in i k ∧ tm_w M_N_settle d u0 Q u S n 61 L (.int (f i.toNatClampNeg) :: r) h))) := tm_r_iaload (by decide +kernel) rfl
theorem ws_N_settle_61 : tm_s M_N_settle d u0 Q u S n 61 L st h = tm_gI L 4 (fun x => tm_w M_N_settle d u0 Q u S n 63 L (.int x :: st) h) := tm_r_iload (j := 4) (by decide +kernel) rfl
theorem ws_N_settle_63 : tm_s M_N_settle d u0 Q u S n 63 L st h = tm_p1 st (fun y r => tm_p1 r (fun x r => (x = y → tm_w M_N_settle d u0 Q u S n 69 L r h) ∧ (¬ x = y → tm_w M_N_settle d u0 Q u S n 66 L r h))) := tm_r_iceq (off := 6) (by decide +kernel) rfl rfl
theorem ws_N_settle_66 : tm_s M_N_settle d u0 Q u S n 66 L st h = tm_gI L 3 (fun x => tm_w M_N_settle d u0 Q u S n 69 (L.set 3 (some (.int (x + 1)))) st h) := tm_r_iinc (j := 3) (k := 1) (by decide +kernel) rfl (by decide) (by decide)
theorem ws_N_settle_69 : tm_s M_N_settle d u0 Q u S n 69 L st h = tm_gI L 4 (fun x => tm_w M_N_settle d u0 Q u S n 72 (L.set 4 (some (.int (x + 1)))) st h) := tm_r_iinc (j := 4) (k := 1) (by decide +kernel) rfl (by decide) (by decide)
theorem ws_N_settle_72 : tm_s M_N_settle d u0 Q u S n 72 L st h = tm_w M_N_settle d u0 Q u S n 42 L st h := tm_r_goto (off := (-30)) (by decide +kernel) rfl
theorem ws_N_settle_75 : tm_s M_N_settle d u0 Q u S n 75 L st h = tm_gI L 3 (fun x => tm_w M_N_settle d u0 Q u S n 76 L (.int x :: st) h) := tm_r_iload_n (i := 3) (by decide +kernel) rfl rfl
theorem ws_N_settle_76 : tm_s M_N_settle d u0 Q u S n 76 L st h = tm_p1 st (fun x r => r = [] ∧ Q (.inl (some (.int x))) h) := tm_r_iret (by decide +kernel) rfl
theorem ws_N_size_0 : tm_s M_N_size d u0 Q u S n 0 L st h = tm_gA L 0 (fun x => tm_w M_N_size d u0 Q u S n 1 L (.ref x :: st) h) := tm_r_aload_n (i := 0) (by decide +kernel) rfl rfl
theorem ws_N_size_1 : tm_s M_N_size d u0 Q u S n 1 L st h = tm_gI L 1 (fun x => tm_w M_N_size d u0 Q u S n 2 L (.int x :: st) h) := tm_r_iload_n (i := 1) (by decide +kernel) rfl rfl
theorem dd_N_size_2 : decode (tm_cc M_N_size) 2 = .ok (.invokevirtual 44, 3) := by decide +kernel
theorem ws_N_size_2 : tm_s M_N_size d u0 Q u S n 2 L st h = tm_T M_N_size d u0 Q u 2 L st h := tm_r_invv dd_N_size_2
theorem ws_N_size_5 : tm_s M_N_size d u0 Q u S n 5 L st h = tm_pA st (fun a r => tm_cO (h a) 1 (fun fs => tm_fv fs 0 (fun v => tm_w M_N_size d u0 Q u S n 8 L (v :: r) h))) := tm_r_getf (i := 52) (by decide +kernel) rfl (by decide +kernel)
theorem ws_N_size_8 : tm_s M_N_size d u0 Q u S n 8 L st h = tm_p1 st (fun x r => r = [] ∧ Q (.inl (some (.int x))) h) := tm_r_iret (by decide +kernel) rfl
theorem ws_N_beside_0 : tm_s M_N_beside d u0 Q u S n 0 L st h = tm_gA L 0 (fun x => tm_w M_N_beside d u0 Q u S n 1 L (.ref x :: st) h) := tm_r_aload_n (i := 0) (by decide +kernel) rfl rfl
theorem ws_N_beside_1 : tm_s M_N_beside d u0 Q u S n 1 L st h = tm_gI L 1 (fun x => tm_w M_N_beside d u0 Q u S n 2 L (.int x :: st) h) := tm_r_iload_n (i := 1) (by decide +kernel) rfl rfl
theorem ws_N_beside_2 : tm_s M_N_beside d u0 Q u S n 2 L st h = tm_gI L 2 (fun x => tm_w M_N_beside d u0 Q u S n 3 L (.int x :: st) h) := tm_r_iload_n (i := 2) (by decide +kernel) rfl rfl
theorem dd_N_beside_3 : decode (tm_cc M_N_beside) 3 = .ok (.invokevirtual 67, 3) := by decide +kernel
theorem ws_N_beside_3 : tm_s M_N_beside d u0 Q u S n 3 L st h = tm_T M_N_beside d u0 Q u 3 L st h := tm_r_invv dd_N_beside_3
theorem ws_N_beside_6 : tm_s M_N_beside d u0 Q u S n 6 L st h = tm_pA st (fun a r => tm_cO (h a) 1 (fun fs => tm_fv fs 2 (fun v => tm_w M_N_beside d u0 Q u S n 9 L (v :: r) h))) := tm_r_getf (i := 115) (by decide +kernel) rfl (by decide +kernel)
theorem ws_N_beside_9 : tm_s M_N_beside d u0 Q u S n 9 L st h = tm_gI L 2 (fun x => tm_w M_N_beside d u0 Q u S n 10 L (.int x :: st) h) := tm_r_iload_n (i := 2) (by decide +kernel) rfl rfl
theorem ws_N_beside_10 : tm_s M_N_beside d u0 Q u S n 10 L st h = tm_p1 st (fun i r => tm_pA r (fun a r => tm_cI (h a) (fun k f => vp_in i k ∧ tm_w M_N_beside d u0 Q u S n 11 L (.int (f i.toNatClampNeg) :: r) h))) := tm_r_iaload (by decide +kernel) rfl
theorem ws_N_beside_11 : tm_s M_N_beside d u0 Q u S n 11 L st h = tm_p1 st (fun x r => r = [] ∧ Q (.inl (some (.int x))) h) := tm_r_iret (by decide +kernel) rfl
theorem ws_N_name_0 : tm_s M_N_name d u0 Q u S n 0 L st h = tm_gA L 0 (fun x => tm_w M_N_name d u0 Q u S n 1 L (.ref x :: st) h) := tm_r_aload_n (i := 0) (by decide +kernel) rfl rfl
theorem ws_N_name_1 : tm_s M_N_name d u0 Q u S n 1 L st h = tm_pA st (fun a r => tm_cO (h a) 0 (fun fs => tm_fv fs 2 (fun v => tm_w M_N_name d u0 Q u S n 4 L (v :: r) h))) := tm_r_getf (i := 23) (by decide +kernel) rfl (by decide +kernel)
theorem ws_N_name_4 : tm_s M_N_name d u0 Q u S n 4 L st h = tm_gA L 0 (fun x => tm_w M_N_name d u0 Q u S n 5 L (.ref x :: st) h) := tm_r_aload_n (i := 0) (by decide +kernel) rfl rfl
theorem ws_N_name_5 : tm_s M_N_name d u0 Q u S n 5 L st h = tm_gI L 1 (fun x => tm_w M_N_name d u0 Q u S n 6 L (.int x :: st) h) := tm_r_iload_n (i := 1) (by decide +kernel) rfl rfl
theorem dd_N_name_6 : decode (tm_cc M_N_name) 6 = .ok (.invokevirtual 44, 3) := by decide +kernel
theorem ws_N_name_6 : tm_s M_N_name d u0 Q u S n 6 L st h = tm_T M_N_name d u0 Q u 6 L st h := tm_r_invv dd_N_name_6
theorem dd_N_name_9 : decode (tm_cc M_N_name) 9 = .ok (.invokevirtual 102, 3) := by decide +kernel
theorem ws_N_name_9 : tm_s M_N_name d u0 Q u S n 9 L st h = tm_T M_N_name d u0 Q u 9 L st h := tm_r_invv dd_N_name_9
theorem ws_N_name_12 : tm_s M_N_name d u0 Q u S n 12 L st h = tm_gA L 0 (fun x => tm_w M_N_name d u0 Q u S n 13 L (.ref x :: st) h) := tm_r_aload_n (i := 0) (by decide +kernel) rfl rfl
theorem ws_N_name_13 : tm_s M_N_name d u0 Q u S n 13 L st h = tm_pA st (fun a r => tm_cO (h a) 0 (fun fs => tm_fv fs 2 (fun v => tm_w M_N_name d u0 Q u S n 16 L (v :: r) h))) := tm_r_getf (i := 23) (by decide +kernel) rfl (by decide +kernel)
theorem ws_N_name_16 : tm_s M_N_name d u0 Q u S n 16 L st h = tm_pA st (fun a r => tm_cO (h a) 2 (fun fs => tm_fv fs 0 (fun v => tm_w M_N_name d u0 Q u S n 19 L (v :: r) h))) := tm_r_getf (i := 118) (by decide +kernel) rfl (by decide +kernel)
theorem ws_N_name_19 : tm_s M_N_name d u0 Q u S n 19 L st h = tm_p1 st (fun x r => r = [] ∧ Q (.inl (some (.int x))) h) := tm_r_iret (by decide +kernel) rfl
theorem ws_N_place_0 : tm_s M_N_place d u0 Q u S n 0 L st h = tm_gA L 0 (fun x => tm_w M_N_place d u0 Q u S n 1 L (.ref x :: st) h) := tm_r_aload_n (i := 0) (by decide +kernel) rfl rfl
theorem ws_N_place_1 : tm_s M_N_place d u0 Q u S n 1 L st h = tm_pA st (fun a r => tm_cO (h a) 0 (fun fs => tm_fv fs 2 (fun v => tm_w M_N_place d u0 Q u S n 4 L (v :: r) h))) := tm_r_getf (i := 23) (by decide +kernel) rfl (by decide +kernel)
theorem ws_N_place_4 : tm_s M_N_place d u0 Q u S n 4 L st h = tm_gA L 0 (fun x => tm_w M_N_place d u0 Q u S n 5 L (.ref x :: st) h) := tm_r_aload_n (i := 0) (by decide +kernel) rfl rfl
theorem ws_N_place_5 : tm_s M_N_place d u0 Q u S n 5 L st h = tm_gI L 1 (fun x => tm_w M_N_place d u0 Q u S n 6 L (.int x :: st) h) := tm_r_iload_n (i := 1) (by decide +kernel) rfl rfl
theorem ws_N_place_6 : tm_s M_N_place d u0 Q u S n 6 L st h = tm_gI L 2 (fun x => tm_w M_N_place d u0 Q u S n 7 L (.int x :: st) h) := tm_r_iload_n (i := 2) (by decide +kernel) rfl rfl
theorem dd_N_place_7 : decode (tm_cc M_N_place) 7 = .ok (.invokevirtual 67, 3) := by decide +kernel
theorem ws_N_place_7 : tm_s M_N_place d u0 Q u S n 7 L st h = tm_T M_N_place d u0 Q u 7 L st h := tm_r_invv dd_N_place_7
theorem dd_N_place_10 : decode (tm_cc M_N_place) 10 = .ok (.invokevirtual 102, 3) := by decide +kernel
theorem ws_N_place_10 : tm_s M_N_place d u0 Q u S n 10 L st h = tm_T M_N_place d u0 Q u 10 L st h := tm_r_invv dd_N_place_10
theorem ws_N_place_13 : tm_s M_N_place d u0 Q u S n 13 L st h = tm_gA L 0 (fun x => tm_w M_N_place d u0 Q u S n 14 L (.ref x :: st) h) := tm_r_aload_n (i := 0) (by decide +kernel) rfl rfl
theorem ws_N_place_14 : tm_s M_N_place d u0 Q u S n 14 L st h = tm_pA st (fun a r => tm_cO (h a) 0 (fun fs => tm_fv fs 2 (fun v => tm_w M_N_place d u0 Q u S n 17 L (v :: r) h))) := tm_r_getf (i := 23) (by decide +kernel) rfl (by decide +kernel)
theorem ws_N_place_17 : tm_s M_N_place d u0 Q u S n 17 L st h = tm_pA st (fun a r => tm_cO (h a) 2 (fun fs => tm_fv fs 2 (fun v => tm_w M_N_place d u0 Q u S n 20 L (v :: r) h))) := tm_r_getf (i := 112) (by decide +kernel) rfl (by decide +kernel)
theorem ws_N_place_20 : tm_s M_N_place d u0 Q u S n 20 L st h = tm_gI L 2 (fun x => tm_w M_N_place d u0 Q u S n 21 L (.int x :: st) h) := tm_r_iload_n (i := 2) (by decide +kernel) rfl rfl
theorem ws_N_place_21 : tm_s M_N_place d u0 Q u S n 21 L st h = tm_p1 st (fun i r => tm_pA r (fun a r => tm_cI (h a) (fun k f => vp_in i k ∧ tm_w M_N_place d u0 Q u S n 22 L (.int (f i.toNatClampNeg) :: r) h))) := tm_r_iaload (by decide +kernel) rfl
theorem ws_N_place_22 : tm_s M_N_place d u0 Q u S n 22 L st h = tm_p1 st (fun x r => r = [] ∧ Q (.inl (some (.int x))) h) := tm_r_iret (by decide +kernel) rfl
theorem ws_N_automorphisms_0 : tm_s M_N_automorphisms d u0 Q u S n 0 L st h = tm_gA L 0 (fun x => tm_w M_N_automorphisms d u0 Q u S n 1 L (.ref x :: st) h) := tm_r_aload_n (i := 0) (by decide +kernel) rfl rfl
theorem ws_N_automorphisms_1 : tm_s M_N_automorphisms d u0 Q u S n 1 L st h = tm_pA st (fun a r => tm_cO (h a) 0 (fun fs => tm_fv fs 4 (fun v => tm_w M_N_automorphisms d u0 Q u S n 4 L (v :: r) h))) := tm_r_getf (i := 33) (by decide +kernel) rfl (by decide +kernel)
theorem ws_N_automorphisms_4 : tm_s M_N_automorphisms d u0 Q u S n 4 L st h = tm_gA L 0 (fun x => tm_w M_N_automorphisms d u0 Q u S n 5 L (.ref x :: st) h) := tm_r_aload_n (i := 0) (by decide +kernel) rfl rfl
theorem ws_N_automorphisms_5 : tm_s M_N_automorphisms d u0 Q u S n 5 L st h = tm_gI L 1 (fun x => tm_w M_N_automorphisms d u0 Q u S n 6 L (.int x :: st) h) := tm_r_iload_n (i := 1) (by decide +kernel) rfl rfl
theorem dd_N_automorphisms_6 : decode (tm_cc M_N_automorphisms) 6 = .ok (.invokevirtual 44, 3) := by decide +kernel
theorem ws_N_automorphisms_6 : tm_s M_N_automorphisms d u0 Q u S n 6 L st h = tm_T M_N_automorphisms d u0 Q u 6 L st h := tm_r_invv dd_N_automorphisms_6
theorem ws_N_automorphisms_9 : tm_s M_N_automorphisms d u0 Q u S n 9 L st h = tm_w M_N_automorphisms d u0 Q u S n 10 L (.int 0 :: st) h := tm_r_iconst (k := 0) (by decide +kernel) rfl (by decide)
theorem dd_N_automorphisms_10 : decode (tm_cc M_N_automorphisms) 10 = .ok (.invokevirtual 121, 3) := by decide +kernel
theorem ws_N_automorphisms_10 : tm_s M_N_automorphisms d u0 Q u S n 10 L st h = tm_T M_N_automorphisms d u0 Q u 10 L st h := tm_r_invv dd_N_automorphisms_10
theorem ws_N_automorphisms_13 : tm_s M_N_automorphisms d u0 Q u S n 13 L st h = tm_p1 st (fun x r => r = [] ∧ Q (.inl (some (.int x))) h) := tm_r_iret (by decide +kernel) rfl
theorem ws_N_fixing_0 : tm_s M_N_fixing d u0 Q u S n 0 L st h = tm_gA L 0 (fun x => tm_w M_N_fixing d u0 Q u S n 1 L (.ref x :: st) h) := tm_r_aload_n (i := 0) (by decide +kernel) rfl rfl
theorem ws_N_fixing_1 : tm_s M_N_fixing d u0 Q u S n 1 L st h = tm_gI L 1 (fun x => tm_w M_N_fixing d u0 Q u S n 2 L (.int x :: st) h) := tm_r_iload_n (i := 1) (by decide +kernel) rfl rfl
theorem dd_N_fixing_2 : decode (tm_cc M_N_fixing) 2 = .ok (.invokevirtual 44, 3) := by decide +kernel
theorem ws_N_fixing_2 : tm_s M_N_fixing d u0 Q u S n 2 L st h = tm_T M_N_fixing d u0 Q u 2 L st h := tm_r_invv dd_N_fixing_2
theorem ws_N_fixing_5 : tm_s M_N_fixing d u0 Q u S n 5 L st h = tm_pA st (fun x r => tm_w M_N_fixing d u0 Q u S n 6 (L.set 3 (some (.ref x))) r h) := tm_r_astore_n (i := 3) (by decide +kernel) rfl rfl (by decide)
theorem ws_N_fixing_6 : tm_s M_N_fixing d u0 Q u S n 6 L st h = tm_gA L 3 (fun x => tm_w M_N_fixing d u0 Q u S n 7 L (.ref x :: st) h) := tm_r_aload_n (i := 3) (by decide +kernel) rfl rfl
theorem ws_N_fixing_7 : tm_s M_N_fixing d u0 Q u S n 7 L st h = tm_gI L 2 (fun x => tm_w M_N_fixing d u0 Q u S n 8 L (.int x :: st) h) := tm_r_iload_n (i := 2) (by decide +kernel) rfl rfl
theorem dd_N_fixing_8 : decode (tm_cc M_N_fixing) 8 = .ok (.invokestatic 125, 3) := by decide +kernel
theorem ws_N_fixing_8 : tm_s M_N_fixing d u0 Q u S n 8 L st h = tm_T M_N_fixing d u0 Q u 8 L st h := tm_r_invs dd_N_fixing_8
theorem ws_N_fixing_11 : tm_s M_N_fixing d u0 Q u S n 11 L st h = tm_gA L 0 (fun x => tm_w M_N_fixing d u0 Q u S n 12 L (.ref x :: st) h) := tm_r_aload_n (i := 0) (by decide +kernel) rfl rfl
theorem ws_N_fixing_12 : tm_s M_N_fixing d u0 Q u S n 12 L st h = tm_pA st (fun a r => tm_cO (h a) 0 (fun fs => tm_fv fs 4 (fun v => tm_w M_N_fixing d u0 Q u S n 15 L (v :: r) h))) := tm_r_getf (i := 33) (by decide +kernel) rfl (by decide +kernel)
theorem ws_N_fixing_15 : tm_s M_N_fixing d u0 Q u S n 15 L st h = tm_gA L 3 (fun x => tm_w M_N_fixing d u0 Q u S n 16 L (.ref x :: st) h) := tm_r_aload_n (i := 3) (by decide +kernel) rfl rfl
theorem ws_N_fixing_16 : tm_s M_N_fixing d u0 Q u S n 16 L st h = tm_gI L 2 (fun x => tm_w M_N_fixing d u0 Q u S n 17 L (.int x :: st) h) := tm_r_iload_n (i := 2) (by decide +kernel) rfl rfl
theorem dd_N_fixing_17 : decode (tm_cc M_N_fixing) 17 = .ok (.invokevirtual 121, 3) := by decide +kernel
theorem ws_N_fixing_17 : tm_s M_N_fixing d u0 Q u S n 17 L st h = tm_T M_N_fixing d u0 Q u 17 L st h := tm_r_invv dd_N_fixing_17
theorem ws_N_fixing_20 : tm_s M_N_fixing d u0 Q u S n 20 L st h = tm_p1 st (fun x r => r = [] ∧ Q (.inl (some (.int x))) h) := tm_r_iret (by decide +kernel) rfl
theorem ws_N_orbit_0 : tm_s M_N_orbit d u0 Q u S n 0 L st h = tm_gA L 0 (fun x => tm_w M_N_orbit d u0 Q u S n 1 L (.ref x :: st) h) := tm_r_aload_n (i := 0) (by decide +kernel) rfl rfl
theorem ws_N_orbit_1 : tm_s M_N_orbit d u0 Q u S n 1 L st h = tm_pA st (fun a r => tm_cO (h a) 0 (fun fs => tm_fv fs 4 (fun v => tm_w M_N_orbit d u0 Q u S n 4 L (v :: r) h))) := tm_r_getf (i := 33) (by decide +kernel) rfl (by decide +kernel)
theorem ws_N_orbit_4 : tm_s M_N_orbit d u0 Q u S n 4 L st h = tm_gA L 0 (fun x => tm_w M_N_orbit d u0 Q u S n 5 L (.ref x :: st) h) := tm_r_aload_n (i := 0) (by decide +kernel) rfl rfl
theorem ws_N_orbit_5 : tm_s M_N_orbit d u0 Q u S n 5 L st h = tm_gI L 1 (fun x => tm_w M_N_orbit d u0 Q u S n 6 L (.int x :: st) h) := tm_r_iload_n (i := 1) (by decide +kernel) rfl rfl
theorem ws_N_orbit_6 : tm_s M_N_orbit d u0 Q u S n 6 L st h = tm_gI L 2 (fun x => tm_w M_N_orbit d u0 Q u S n 7 L (.int x :: st) h) := tm_r_iload_n (i := 2) (by decide +kernel) rfl rfl
theorem dd_N_orbit_7 : decode (tm_cc M_N_orbit) 7 = .ok (.invokevirtual 67, 3) := by decide +kernel
theorem ws_N_orbit_7 : tm_s M_N_orbit d u0 Q u S n 7 L st h = tm_T M_N_orbit d u0 Q u 7 L st h := tm_r_invv dd_N_orbit_7
theorem ws_N_orbit_10 : tm_s M_N_orbit d u0 Q u S n 10 L st h = tm_gI L 2 (fun x => tm_w M_N_orbit d u0 Q u S n 11 L (.int x :: st) h) := tm_r_iload_n (i := 2) (by decide +kernel) rfl rfl
theorem ws_N_orbit_11 : tm_s M_N_orbit d u0 Q u S n 11 L st h = tm_w M_N_orbit d u0 Q u S n 12 L (.int 0 :: st) h := tm_r_iconst (k := 0) (by decide +kernel) rfl (by decide)
theorem dd_N_orbit_12 : decode (tm_cc M_N_orbit) 12 = .ok (.invokevirtual 129, 3) := by decide +kernel
theorem ws_N_orbit_12 : tm_s M_N_orbit d u0 Q u S n 12 L st h = tm_T M_N_orbit d u0 Q u 12 L st h := tm_r_invv dd_N_orbit_12
theorem ws_N_orbit_15 : tm_s M_N_orbit d u0 Q u S n 15 L st h = tm_p1 st (fun x r => r = [] ∧ Q (.inl (some (.int x))) h) := tm_r_iret (by decide +kernel) rfl
theorem ws_N_orbits_0 : tm_s M_N_orbits d u0 Q u S n 0 L st h = tm_gA L 0 (fun x => tm_w M_N_orbits d u0 Q u S n 1 L (.ref x :: st) h) := tm_r_aload_n (i := 0) (by decide +kernel) rfl rfl
theorem ws_N_orbits_1 : tm_s M_N_orbits d u0 Q u S n 1 L st h = tm_gI L 1 (fun x => tm_w M_N_orbits d u0 Q u S n 2 L (.int x :: st) h) := tm_r_iload_n (i := 1) (by decide +kernel) rfl rfl
theorem dd_N_orbits_2 : decode (tm_cc M_N_orbits) 2 = .ok (.invokevirtual 44, 3) := by decide +kernel
theorem ws_N_orbits_2 : tm_s M_N_orbits d u0 Q u S n 2 L st h = tm_T M_N_orbits d u0 Q u 2 L st h := tm_r_invv dd_N_orbits_2
theorem ws_N_orbits_5 : tm_s M_N_orbits d u0 Q u S n 5 L st h = tm_pA st (fun x r => tm_w M_N_orbits d u0 Q u S n 6 (L.set 2 (some (.ref x))) r h) := tm_r_astore_n (i := 2) (by decide +kernel) rfl rfl (by decide)
theorem ws_N_orbits_6 : tm_s M_N_orbits d u0 Q u S n 6 L st h = tm_w M_N_orbits d u0 Q u S n 7 L (.int 0 :: st) h := tm_r_iconst (k := 0) (by decide +kernel) rfl (by decide)
theorem ws_N_orbits_7 : tm_s M_N_orbits d u0 Q u S n 7 L st h = tm_p1 st (fun x r => tm_w M_N_orbits d u0 Q u S n 8 (L.set 3 (some (.int x))) r h) := tm_r_istore_n (i := 3) (by decide +kernel) rfl rfl (by decide)
theorem ws_N_orbits_8 : tm_s M_N_orbits d u0 Q u S n 8 L st h = tm_w M_N_orbits d u0 Q u S n 9 L (.int 0 :: st) h := tm_r_iconst (k := 0) (by decide +kernel) rfl (by decide)
theorem ws_N_orbits_9 : tm_s M_N_orbits d u0 Q u S n 9 L st h = tm_p1 st (fun x r => tm_w M_N_orbits d u0 Q u S n 11 (L.set 4 (some (.int x))) r h) := tm_r_istore (j := 4) (by decide +kernel) rfl (by decide)
theorem ws_N_orbits_11 : tm_s M_N_orbits d u0 Q u S n 11 L st h = tm_w M_N_orbits d u0 Q u S n 12 L (.int 0 :: st) h := tm_r_iconst (k := 0) (by decide +kernel) rfl (by decide)
theorem ws_N_orbits_12 : tm_s M_N_orbits d u0 Q u S n 12 L st h = tm_p1 st (fun x r => tm_w M_N_orbits d u0 Q u S n 14 (L.set 5 (some (.int x))) r h) := tm_r_istore (j := 5) (by decide +kernel) rfl (by decide)
theorem ws_N_orbits_14 : tm_s M_N_orbits d u0 Q u S n 14 L st h = tm_gI L 5 (fun x => tm_w M_N_orbits d u0 Q u S n 16 L (.int x :: st) h) := tm_r_iload (j := 5) (by decide +kernel) rfl
theorem ws_N_orbits_16 : tm_s M_N_orbits d u0 Q u S n 16 L st h = tm_gA L 2 (fun x => tm_w M_N_orbits d u0 Q u S n 17 L (.ref x :: st) h) := tm_r_aload_n (i := 2) (by decide +kernel) rfl rfl
theorem ws_N_orbits_17 : tm_s M_N_orbits d u0 Q u S n 17 L st h = tm_pA st (fun a r => tm_cO (h a) 1 (fun fs => tm_fv fs 0 (fun v => tm_w M_N_orbits d u0 Q u S n 20 L (v :: r) h))) := tm_r_getf (i := 52) (by decide +kernel) rfl (by decide +kernel)
theorem ws_N_orbits_20 : tm_s M_N_orbits d u0 Q u S n 20 L st h = tm_p1 st (fun y r => tm_p1 r (fun x r => (y ≤ x → tm_w M_N_orbits d u0 Q u S n 58 L r h) ∧ (¬ y ≤ x → tm_w M_N_orbits d u0 Q u S n 23 L r h))) := tm_r_icge (off := 38) (by decide +kernel) rfl rfl
theorem ws_N_orbits_23 : tm_s M_N_orbits d u0 Q u S n 23 L st h = tm_gI L 4 (fun x => tm_w M_N_orbits d u0 Q u S n 25 L (.int x :: st) h) := tm_r_iload (j := 4) (by decide +kernel) rfl
theorem ws_N_orbits_25 : tm_s M_N_orbits d u0 Q u S n 25 L st h = tm_gI L 5 (fun x => tm_w M_N_orbits d u0 Q u S n 27 L (.int x :: st) h) := tm_r_iload (j := 5) (by decide +kernel) rfl
theorem dd_N_orbits_27 : decode (tm_cc M_N_orbits) 27 = .ok (.invokestatic 133, 3) := by decide +kernel
theorem ws_N_orbits_27 : tm_s M_N_orbits d u0 Q u S n 27 L st h = tm_T M_N_orbits d u0 Q u 27 L st h := tm_r_invs dd_N_orbits_27
theorem ws_N_orbits_30 : tm_s M_N_orbits d u0 Q u S n 30 L st h = tm_p1 st (fun x r => (¬ x = 0 → tm_w M_N_orbits d u0 Q u S n 52 L r h) ∧ (¬ ¬ x = 0 → tm_w M_N_orbits d u0 Q u S n 33 L r h)) := tm_r_ifne (off := 22) (by decide +kernel) rfl rfl
theorem ws_N_orbits_33 : tm_s M_N_orbits d u0 Q u S n 33 L st h = tm_gI L 3 (fun x => tm_w M_N_orbits d u0 Q u S n 36 (L.set 3 (some (.int (x + 1)))) st h) := tm_r_iinc (j := 3) (k := 1) (by decide +kernel) rfl (by decide) (by decide)
theorem ws_N_orbits_36 : tm_s M_N_orbits d u0 Q u S n 36 L st h = tm_gI L 4 (fun x => tm_w M_N_orbits d u0 Q u S n 38 L (.int x :: st) h) := tm_r_iload (j := 4) (by decide +kernel) rfl
theorem ws_N_orbits_38 : tm_s M_N_orbits d u0 Q u S n 38 L st h = tm_gA L 0 (fun x => tm_w M_N_orbits d u0 Q u S n 39 L (.ref x :: st) h) := tm_r_aload_n (i := 0) (by decide +kernel) rfl rfl
theorem ws_N_orbits_39 : tm_s M_N_orbits d u0 Q u S n 39 L st h = tm_pA st (fun a r => tm_cO (h a) 0 (fun fs => tm_fv fs 4 (fun v => tm_w M_N_orbits d u0 Q u S n 42 L (v :: r) h))) := tm_r_getf (i := 33) (by decide +kernel) rfl (by decide +kernel)
theorem ws_N_orbits_42 : tm_s M_N_orbits d u0 Q u S n 42 L st h = tm_gA L 2 (fun x => tm_w M_N_orbits d u0 Q u S n 43 L (.ref x :: st) h) := tm_r_aload_n (i := 2) (by decide +kernel) rfl rfl
theorem ws_N_orbits_43 : tm_s M_N_orbits d u0 Q u S n 43 L st h = tm_gI L 5 (fun x => tm_w M_N_orbits d u0 Q u S n 45 L (.int x :: st) h) := tm_r_iload (j := 5) (by decide +kernel) rfl
theorem ws_N_orbits_45 : tm_s M_N_orbits d u0 Q u S n 45 L st h = tm_w M_N_orbits d u0 Q u S n 46 L (.int 0 :: st) h := tm_r_iconst (k := 0) (by decide +kernel) rfl (by decide)
theorem dd_N_orbits_46 : decode (tm_cc M_N_orbits) 46 = .ok (.invokevirtual 129, 3) := by decide +kernel
theorem ws_N_orbits_46 : tm_s M_N_orbits d u0 Q u S n 46 L st h = tm_T M_N_orbits d u0 Q u 46 L st h := tm_r_invv dd_N_orbits_46
theorem ws_N_orbits_49 : tm_s M_N_orbits d u0 Q u S n 49 L st h = tm_p1 st (fun y r => tm_p1 r (fun x r => tm_w M_N_orbits d u0 Q u S n 50 L (.int (x ||| y) :: r) h)) := tm_r_ior (by decide +kernel) rfl
theorem ws_N_orbits_50 : tm_s M_N_orbits d u0 Q u S n 50 L st h = tm_p1 st (fun x r => tm_w M_N_orbits d u0 Q u S n 52 (L.set 4 (some (.int x))) r h) := tm_r_istore (j := 4) (by decide +kernel) rfl (by decide)
theorem ws_N_orbits_52 : tm_s M_N_orbits d u0 Q u S n 52 L st h = tm_gI L 5 (fun x => tm_w M_N_orbits d u0 Q u S n 55 (L.set 5 (some (.int (x + 1)))) st h) := tm_r_iinc (j := 5) (k := 1) (by decide +kernel) rfl (by decide) (by decide)
theorem ws_N_orbits_55 : tm_s M_N_orbits d u0 Q u S n 55 L st h = tm_w M_N_orbits d u0 Q u S n 14 L st h := tm_r_goto (off := (-41)) (by decide +kernel) rfl
theorem ws_N_orbits_58 : tm_s M_N_orbits d u0 Q u S n 58 L st h = tm_gI L 3 (fun x => tm_w M_N_orbits d u0 Q u S n 59 L (.int x :: st) h) := tm_r_iload_n (i := 3) (by decide +kernel) rfl rfl
theorem ws_N_orbits_59 : tm_s M_N_orbits d u0 Q u S n 59 L st h = tm_p1 st (fun x r => r = [] ∧ Q (.inl (some (.int x))) h) := tm_r_iret (by decide +kernel) rfl
theorem ws_N_cell_0 : tm_s M_N_cell d u0 Q u S n 0 L st h = tm_gA L 0 (fun x => tm_w M_N_cell d u0 Q u S n 1 L (.ref x :: st) h) := tm_r_aload_n (i := 0) (by decide +kernel) rfl rfl
theorem ws_N_cell_1 : tm_s M_N_cell d u0 Q u S n 1 L st h = tm_pA st (fun a r => tm_cO (h a) 0 (fun fs => tm_fv fs 5 (fun v => tm_w M_N_cell d u0 Q u S n 4 L (v :: r) h))) := tm_r_getf (i := 40) (by decide +kernel) rfl (by decide +kernel)
theorem ws_N_cell_4 : tm_s M_N_cell d u0 Q u S n 4 L st h = tm_gA L 0 (fun x => tm_w M_N_cell d u0 Q u S n 5 L (.ref x :: st) h) := tm_r_aload_n (i := 0) (by decide +kernel) rfl rfl
theorem ws_N_cell_5 : tm_s M_N_cell d u0 Q u S n 5 L st h = tm_gI L 1 (fun x => tm_w M_N_cell d u0 Q u S n 6 L (.int x :: st) h) := tm_r_iload_n (i := 1) (by decide +kernel) rfl rfl
theorem ws_N_cell_6 : tm_s M_N_cell d u0 Q u S n 6 L st h = tm_gI L 2 (fun x => tm_w M_N_cell d u0 Q u S n 7 L (.int x :: st) h) := tm_r_iload_n (i := 2) (by decide +kernel) rfl rfl
theorem dd_N_cell_7 : decode (tm_cc M_N_cell) 7 = .ok (.invokevirtual 67, 3) := by decide +kernel
theorem ws_N_cell_7 : tm_s M_N_cell d u0 Q u S n 7 L st h = tm_T M_N_cell d u0 Q u 7 L st h := tm_r_invv dd_N_cell_7
theorem dd_N_cell_10 : decode (tm_cc M_N_cell) 10 = .ok (.invokevirtual 136, 3) := by decide +kernel
theorem ws_N_cell_10 : tm_s M_N_cell d u0 Q u S n 10 L st h = tm_T M_N_cell d u0 Q u 10 L st h := tm_r_invv dd_N_cell_10
theorem ws_N_cell_13 : tm_s M_N_cell d u0 Q u S n 13 L st h = tm_gA L 0 (fun x => tm_w M_N_cell d u0 Q u S n 14 L (.ref x :: st) h) := tm_r_aload_n (i := 0) (by decide +kernel) rfl rfl
theorem ws_N_cell_14 : tm_s M_N_cell d u0 Q u S n 14 L st h = tm_pA st (fun a r => tm_cO (h a) 0 (fun fs => tm_fv fs 5 (fun v => tm_w M_N_cell d u0 Q u S n 17 L (v :: r) h))) := tm_r_getf (i := 40) (by decide +kernel) rfl (by decide +kernel)
theorem ws_N_cell_17 : tm_s M_N_cell d u0 Q u S n 17 L st h = tm_pA st (fun a r => tm_cO (h a) 4 (fun fs => tm_fv fs 0 (fun v => tm_w M_N_cell d u0 Q u S n 20 L (v :: r) h))) := tm_r_getf (i := 137) (by decide +kernel) rfl (by decide +kernel)
theorem ws_N_cell_20 : tm_s M_N_cell d u0 Q u S n 20 L st h = tm_gI L 2 (fun x => tm_w M_N_cell d u0 Q u S n 21 L (.int x :: st) h) := tm_r_iload_n (i := 2) (by decide +kernel) rfl rfl
theorem ws_N_cell_21 : tm_s M_N_cell d u0 Q u S n 21 L st h = tm_p1 st (fun i r => tm_pA r (fun a r => tm_cI (h a) (fun k f => vp_in i k ∧ tm_w M_N_cell d u0 Q u S n 22 L (.int (f i.toNatClampNeg) :: r) h))) := tm_r_iaload (by decide +kernel) rfl
theorem ws_N_cell_22 : tm_s M_N_cell d u0 Q u S n 22 L st h = tm_p1 st (fun x r => r = [] ∧ Q (.inl (some (.int x))) h) := tm_r_iret (by decide +kernel) rfl
theorem ws_N_cells_0 : tm_s M_N_cells d u0 Q u S n 0 L st h = tm_gA L 0 (fun x => tm_w M_N_cells d u0 Q u S n 1 L (.ref x :: st) h) := tm_r_aload_n (i := 0) (by decide +kernel) rfl rfl
theorem ws_N_cells_1 : tm_s M_N_cells d u0 Q u S n 1 L st h = tm_gI L 1 (fun x => tm_w M_N_cells d u0 Q u S n 2 L (.int x :: st) h) := tm_r_iload_n (i := 1) (by decide +kernel) rfl rfl
theorem dd_N_cells_2 : decode (tm_cc M_N_cells) 2 = .ok (.invokevirtual 44, 3) := by decide +kernel
theorem ws_N_cells_2 : tm_s M_N_cells d u0 Q u S n 2 L st h = tm_T M_N_cells d u0 Q u 2 L st h := tm_r_invv dd_N_cells_2
theorem ws_N_cells_5 : tm_s M_N_cells d u0 Q u S n 5 L st h = tm_pA st (fun x r => tm_w M_N_cells d u0 Q u S n 6 (L.set 2 (some (.ref x))) r h) := tm_r_astore_n (i := 2) (by decide +kernel) rfl rfl (by decide)
theorem ws_N_cells_6 : tm_s M_N_cells d u0 Q u S n 6 L st h = tm_gA L 0 (fun x => tm_w M_N_cells d u0 Q u S n 7 L (.ref x :: st) h) := tm_r_aload_n (i := 0) (by decide +kernel) rfl rfl
theorem ws_N_cells_7 : tm_s M_N_cells d u0 Q u S n 7 L st h = tm_pA st (fun a r => tm_cO (h a) 0 (fun fs => tm_fv fs 5 (fun v => tm_w M_N_cells d u0 Q u S n 10 L (v :: r) h))) := tm_r_getf (i := 40) (by decide +kernel) rfl (by decide +kernel)
theorem ws_N_cells_10 : tm_s M_N_cells d u0 Q u S n 10 L st h = tm_gA L 2 (fun x => tm_w M_N_cells d u0 Q u S n 11 L (.ref x :: st) h) := tm_r_aload_n (i := 2) (by decide +kernel) rfl rfl
theorem dd_N_cells_11 : decode (tm_cc M_N_cells) 11 = .ok (.invokevirtual 136, 3) := by decide +kernel
theorem ws_N_cells_11 : tm_s M_N_cells d u0 Q u S n 11 L st h = tm_T M_N_cells d u0 Q u 11 L st h := tm_r_invv dd_N_cells_11
theorem ws_N_cells_14 : tm_s M_N_cells d u0 Q u S n 14 L st h = tm_w M_N_cells d u0 Q u S n 15 L (.int 0 :: st) h := tm_r_iconst (k := 0) (by decide +kernel) rfl (by decide)
theorem ws_N_cells_15 : tm_s M_N_cells d u0 Q u S n 15 L st h = tm_p1 st (fun x r => tm_w M_N_cells d u0 Q u S n 16 (L.set 3 (some (.int x))) r h) := tm_r_istore_n (i := 3) (by decide +kernel) rfl rfl (by decide)
theorem ws_N_cells_16 : tm_s M_N_cells d u0 Q u S n 16 L st h = tm_w M_N_cells d u0 Q u S n 17 L (.int 0 :: st) h := tm_r_iconst (k := 0) (by decide +kernel) rfl (by decide)
theorem ws_N_cells_17 : tm_s M_N_cells d u0 Q u S n 17 L st h = tm_p1 st (fun x r => tm_w M_N_cells d u0 Q u S n 19 (L.set 4 (some (.int x))) r h) := tm_r_istore (j := 4) (by decide +kernel) rfl (by decide)
theorem ws_N_cells_19 : tm_s M_N_cells d u0 Q u S n 19 L st h = tm_gI L 4 (fun x => tm_w M_N_cells d u0 Q u S n 21 L (.int x :: st) h) := tm_r_iload (j := 4) (by decide +kernel) rfl
theorem ws_N_cells_21 : tm_s M_N_cells d u0 Q u S n 21 L st h = tm_gA L 2 (fun x => tm_w M_N_cells d u0 Q u S n 22 L (.ref x :: st) h) := tm_r_aload_n (i := 2) (by decide +kernel) rfl rfl
theorem ws_N_cells_22 : tm_s M_N_cells d u0 Q u S n 22 L st h = tm_pA st (fun a r => tm_cO (h a) 1 (fun fs => tm_fv fs 0 (fun v => tm_w M_N_cells d u0 Q u S n 25 L (v :: r) h))) := tm_r_getf (i := 52) (by decide +kernel) rfl (by decide +kernel)
theorem ws_N_cells_25 : tm_s M_N_cells d u0 Q u S n 25 L st h = tm_p1 st (fun y r => tm_p1 r (fun x r => (y ≤ x → tm_w M_N_cells d u0 Q u S n 55 L r h) ∧ (¬ y ≤ x → tm_w M_N_cells d u0 Q u S n 28 L r h))) := tm_r_icge (off := 30) (by decide +kernel) rfl rfl
theorem ws_N_cells_28 : tm_s M_N_cells d u0 Q u S n 28 L st h = tm_gI L 4 (fun x => tm_w M_N_cells d u0 Q u S n 30 L (.int x :: st) h) := tm_r_iload (j := 4) (by decide +kernel) rfl
theorem ws_N_cells_30 : tm_s M_N_cells d u0 Q u S n 30 L st h = tm_gA L 0 (fun x => tm_w M_N_cells d u0 Q u S n 31 L (.ref x :: st) h) := tm_r_aload_n (i := 0) (by decide +kernel) rfl rfl
theorem ws_N_cells_31 : tm_s M_N_cells d u0 Q u S n 31 L st h = tm_pA st (fun a r => tm_cO (h a) 0 (fun fs => tm_fv fs 5 (fun v => tm_w M_N_cells d u0 Q u S n 34 L (v :: r) h))) := tm_r_getf (i := 40) (by decide +kernel) rfl (by decide +kernel)
theorem ws_N_cells_34 : tm_s M_N_cells d u0 Q u S n 34 L st h = tm_pA st (fun a r => tm_cO (h a) 4 (fun fs => tm_fv fs 0 (fun v => tm_w M_N_cells d u0 Q u S n 37 L (v :: r) h))) := tm_r_getf (i := 137) (by decide +kernel) rfl (by decide +kernel)
theorem ws_N_cells_37 : tm_s M_N_cells d u0 Q u S n 37 L st h = tm_gI L 4 (fun x => tm_w M_N_cells d u0 Q u S n 39 L (.int x :: st) h) := tm_r_iload (j := 4) (by decide +kernel) rfl
theorem ws_N_cells_39 : tm_s M_N_cells d u0 Q u S n 39 L st h = tm_p1 st (fun i r => tm_pA r (fun a r => tm_cI (h a) (fun k f => vp_in i k ∧ tm_w M_N_cells d u0 Q u S n 40 L (.int (f i.toNatClampNeg) :: r) h))) := tm_r_iaload (by decide +kernel) rfl
theorem dd_N_cells_40 : decode (tm_cc M_N_cells) 40 = .ok (.invokestatic 140, 3) := by decide +kernel
theorem ws_N_cells_40 : tm_s M_N_cells d u0 Q u S n 40 L st h = tm_T M_N_cells d u0 Q u 40 L st h := tm_r_invs dd_N_cells_40
theorem ws_N_cells_43 : tm_s M_N_cells d u0 Q u S n 43 L st h = tm_p1 st (fun x r => (x = 0 → tm_w M_N_cells d u0 Q u S n 49 L r h) ∧ (¬ x = 0 → tm_w M_N_cells d u0 Q u S n 46 L r h)) := tm_r_ifeq (off := 6) (by decide +kernel) rfl rfl
theorem ws_N_cells_46 : tm_s M_N_cells d u0 Q u S n 46 L st h = tm_gI L 3 (fun x => tm_w M_N_cells d u0 Q u S n 49 (L.set 3 (some (.int (x + 1)))) st h) := tm_r_iinc (j := 3) (k := 1) (by decide +kernel) rfl (by decide) (by decide)
theorem ws_N_cells_49 : tm_s M_N_cells d u0 Q u S n 49 L st h = tm_gI L 4 (fun x => tm_w M_N_cells d u0 Q u S n 52 (L.set 4 (some (.int (x + 1)))) st h) := tm_r_iinc (j := 4) (k := 1) (by decide +kernel) rfl (by decide) (by decide)
theorem ws_N_cells_52 : tm_s M_N_cells d u0 Q u S n 52 L st h = tm_w M_N_cells d u0 Q u S n 19 L st h := tm_r_goto (off := (-33)) (by decide +kernel) rfl
theorem ws_N_cells_55 : tm_s M_N_cells d u0 Q u S n 55 L st h = tm_gI L 3 (fun x => tm_w M_N_cells d u0 Q u S n 56 L (.int x :: st) h) := tm_r_iload_n (i := 3) (by decide +kernel) rfl rfl
theorem ws_N_cells_56 : tm_s M_N_cells d u0 Q u S n 56 L st h = tm_p1 st (fun x r => r = [] ∧ Q (.inl (some (.int x))) h) := tm_r_iret (by decide +kernel) rfl
theorem ws_N_same_0 : tm_s M_N_same d u0 Q u S n 0 L st h = tm_gA L 0 (fun x => tm_w M_N_same d u0 Q u S n 1 L (.ref x :: st) h) := tm_r_aload_n (i := 0) (by decide +kernel) rfl rfl
theorem ws_N_same_1 : tm_s M_N_same d u0 Q u S n 1 L st h = tm_gA L 0 (fun x => tm_w M_N_same d u0 Q u S n 2 L (.ref x :: st) h) := tm_r_aload_n (i := 0) (by decide +kernel) rfl rfl
theorem ws_N_same_2 : tm_s M_N_same d u0 Q u S n 2 L st h = tm_gI L 1 (fun x => tm_w M_N_same d u0 Q u S n 3 L (.int x :: st) h) := tm_r_iload_n (i := 1) (by decide +kernel) rfl rfl
theorem dd_N_same_3 : decode (tm_cc M_N_same) 3 = .ok (.invokevirtual 44, 3) := by decide +kernel
theorem ws_N_same_3 : tm_s M_N_same d u0 Q u S n 3 L st h = tm_T M_N_same d u0 Q u 3 L st h := tm_r_invv dd_N_same_3
theorem ws_N_same_6 : tm_s M_N_same d u0 Q u S n 6 L st h = tm_gA L 0 (fun x => tm_w M_N_same d u0 Q u S n 7 L (.ref x :: st) h) := tm_r_aload_n (i := 0) (by decide +kernel) rfl rfl
theorem ws_N_same_7 : tm_s M_N_same d u0 Q u S n 7 L st h = tm_gI L 2 (fun x => tm_w M_N_same d u0 Q u S n 8 L (.int x :: st) h) := tm_r_iload_n (i := 2) (by decide +kernel) rfl rfl
theorem dd_N_same_8 : decode (tm_cc M_N_same) 8 = .ok (.invokevirtual 44, 3) := by decide +kernel
theorem ws_N_same_8 : tm_s M_N_same d u0 Q u S n 8 L st h = tm_T M_N_same d u0 Q u 8 L st h := tm_r_invv dd_N_same_8
theorem dd_N_same_11 : decode (tm_cc M_N_same) 11 = .ok (.invokevirtual 143, 3) := by decide +kernel
theorem ws_N_same_11 : tm_s M_N_same d u0 Q u S n 11 L st h = tm_T M_N_same d u0 Q u 11 L st h := tm_r_invv dd_N_same_11
theorem ws_N_same_14 : tm_s M_N_same d u0 Q u S n 14 L st h = tm_p1 st (fun x r => r = [] ∧ (x = 0 ∨ x = 1) ∧ Q (.inl (some (.int x))) h) := tm_r_zret (by decide +kernel) rfl
theorem ws_N_match_0 : tm_s M_N_match d u0 Q u S n 0 L st h = tm_gA L 0 (fun x => tm_w M_N_match d u0 Q u S n 1 L (.ref x :: st) h) := tm_r_aload_n (i := 0) (by decide +kernel) rfl rfl
theorem ws_N_match_1 : tm_s M_N_match d u0 Q u S n 1 L st h = tm_gA L 0 (fun x => tm_w M_N_match d u0 Q u S n 2 L (.ref x :: st) h) := tm_r_aload_n (i := 0) (by decide +kernel) rfl rfl
theorem ws_N_match_2 : tm_s M_N_match d u0 Q u S n 2 L st h = tm_gI L 1 (fun x => tm_w M_N_match d u0 Q u S n 3 L (.int x :: st) h) := tm_r_iload_n (i := 1) (by decide +kernel) rfl rfl
theorem ws_N_match_3 : tm_s M_N_match d u0 Q u S n 3 L st h = tm_gI L 3 (fun x => tm_w M_N_match d u0 Q u S n 4 L (.int x :: st) h) := tm_r_iload_n (i := 3) (by decide +kernel) rfl rfl
theorem dd_N_match_4 : decode (tm_cc M_N_match) 4 = .ok (.invokevirtual 67, 3) := by decide +kernel
theorem ws_N_match_4 : tm_s M_N_match d u0 Q u S n 4 L st h = tm_T M_N_match d u0 Q u 4 L st h := tm_r_invv dd_N_match_4
theorem ws_N_match_7 : tm_s M_N_match d u0 Q u S n 7 L st h = tm_gA L 0 (fun x => tm_w M_N_match d u0 Q u S n 8 L (.ref x :: st) h) := tm_r_aload_n (i := 0) (by decide +kernel) rfl rfl
theorem ws_N_match_8 : tm_s M_N_match d u0 Q u S n 8 L st h = tm_gI L 2 (fun x => tm_w M_N_match d u0 Q u S n 9 L (.int x :: st) h) := tm_r_iload_n (i := 2) (by decide +kernel) rfl rfl
theorem dd_N_match_9 : decode (tm_cc M_N_match) 9 = .ok (.invokevirtual 44, 3) := by decide +kernel
theorem ws_N_match_9 : tm_s M_N_match d u0 Q u S n 9 L st h = tm_T M_N_match d u0 Q u 9 L st h := tm_r_invv dd_N_match_9
theorem dd_N_match_12 : decode (tm_cc M_N_match) 12 = .ok (.invokevirtual 143, 3) := by decide +kernel
theorem ws_N_match_12 : tm_s M_N_match d u0 Q u S n 12 L st h = tm_T M_N_match d u0 Q u 12 L st h := tm_r_invv dd_N_match_12
theorem ws_N_match_15 : tm_s M_N_match d u0 Q u S n 15 L st h = tm_p1 st (fun x r => (¬ x = 0 → tm_w M_N_match d u0 Q u S n 20 L r h) ∧ (¬ ¬ x = 0 → tm_w M_N_match d u0 Q u S n 18 L r h)) := tm_r_ifne (off := 5) (by decide +kernel) rfl rfl
theorem ws_N_match_18 : tm_s M_N_match d u0 Q u S n 18 L st h = tm_w M_N_match d u0 Q u S n 19 L (.int (-1) :: st) h := tm_r_iconst (k := (-1)) (by decide +kernel) rfl (by decide)
theorem ws_N_match_19 : tm_s M_N_match d u0 Q u S n 19 L st h = tm_p1 st (fun x r => r = [] ∧ Q (.inl (some (.int x))) h) := tm_r_iret (by decide +kernel) rfl
theorem ws_N_match_20 : tm_s M_N_match d u0 Q u S n 20 L st h = tm_gA L 0 (fun x => tm_w M_N_match d u0 Q u S n 21 L (.ref x :: st) h) := tm_r_aload_n (i := 0) (by decide +kernel) rfl rfl
theorem ws_N_match_21 : tm_s M_N_match d u0 Q u S n 21 L st h = tm_pA st (fun a r => tm_cO (h a) 0 (fun fs => tm_fv fs 3 (fun v => tm_w M_N_match d u0 Q u S n 24 L (v :: r) h))) := tm_r_getf (i := 27) (by decide +kernel) rfl (by decide +kernel)
theorem ws_N_match_24 : tm_s M_N_match d u0 Q u S n 24 L st h = tm_pA st (fun a r => tm_cO (h a) 2 (fun fs => tm_fv fs 1 (fun v => tm_w M_N_match d u0 Q u S n 27 L (v :: r) h))) := tm_r_getf (i := 105) (by decide +kernel) rfl (by decide +kernel)
theorem ws_N_match_27 : tm_s M_N_match d u0 Q u S n 27 L st h = tm_gA L 0 (fun x => tm_w M_N_match d u0 Q u S n 28 L (.ref x :: st) h) := tm_r_aload_n (i := 0) (by decide +kernel) rfl rfl
theorem ws_N_match_28 : tm_s M_N_match d u0 Q u S n 28 L st h = tm_pA st (fun a r => tm_cO (h a) 0 (fun fs => tm_fv fs 2 (fun v => tm_w M_N_match d u0 Q u S n 31 L (v :: r) h))) := tm_r_getf (i := 23) (by decide +kernel) rfl (by decide +kernel)
theorem ws_N_match_31 : tm_s M_N_match d u0 Q u S n 31 L st h = tm_pA st (fun a r => tm_cO (h a) 2 (fun fs => tm_fv fs 2 (fun v => tm_w M_N_match d u0 Q u S n 34 L (v :: r) h))) := tm_r_getf (i := 112) (by decide +kernel) rfl (by decide +kernel)
theorem ws_N_match_34 : tm_s M_N_match d u0 Q u S n 34 L st h = tm_gI L 3 (fun x => tm_w M_N_match d u0 Q u S n 35 L (.int x :: st) h) := tm_r_iload_n (i := 3) (by decide +kernel) rfl rfl
theorem ws_N_match_35 : tm_s M_N_match d u0 Q u S n 35 L st h = tm_p1 st (fun i r => tm_pA r (fun a r => tm_cI (h a) (fun k f => vp_in i k ∧ tm_w M_N_match d u0 Q u S n 36 L (.int (f i.toNatClampNeg) :: r) h))) := tm_r_iaload (by decide +kernel) rfl
theorem ws_N_match_36 : tm_s M_N_match d u0 Q u S n 36 L st h = tm_p1 st (fun i r => tm_pA r (fun a r => tm_cI (h a) (fun k f => vp_in i k ∧ tm_w M_N_match d u0 Q u S n 37 L (.int (f i.toNatClampNeg) :: r) h))) := tm_r_iaload (by decide +kernel) rfl
theorem ws_N_match_37 : tm_s M_N_match d u0 Q u S n 37 L st h = tm_p1 st (fun x r => r = [] ∧ Q (.inl (some (.int x))) h) := tm_r_iret (by decide +kernel) rfl
theorem ws_N_moves_0 : tm_s M_N_moves d u0 Q u S n 0 L st h = tm_gA L 0 (fun x => tm_w M_N_moves d u0 Q u S n 1 L (.ref x :: st) h) := tm_r_aload_n (i := 0) (by decide +kernel) rfl rfl
theorem ws_N_moves_1 : tm_s M_N_moves d u0 Q u S n 1 L st h = tm_gI L 1 (fun x => tm_w M_N_moves d u0 Q u S n 2 L (.int x :: st) h) := tm_r_iload_n (i := 1) (by decide +kernel) rfl rfl
theorem ws_N_moves_2 : tm_s M_N_moves d u0 Q u S n 2 L st h = tm_gI L 2 (fun x => tm_w M_N_moves d u0 Q u S n 3 L (.int x :: st) h) := tm_r_iload_n (i := 2) (by decide +kernel) rfl rfl
theorem dd_N_moves_3 : decode (tm_cc M_N_moves) 3 = .ok (.invokevirtual 67, 3) := by decide +kernel
theorem ws_N_moves_3 : tm_s M_N_moves d u0 Q u S n 3 L st h = tm_T M_N_moves d u0 Q u 3 L st h := tm_r_invv dd_N_moves_3
theorem ws_N_moves_6 : tm_s M_N_moves d u0 Q u S n 6 L st h = tm_pA st (fun x r => tm_w M_N_moves d u0 Q u S n 8 (L.set 5 (some (.ref x))) r h) := tm_r_astore (j := 5) (by decide +kernel) rfl (by decide)
theorem ws_N_moves_8 : tm_s M_N_moves d u0 Q u S n 8 L st h = tm_gA L 5 (fun x => tm_w M_N_moves d u0 Q u S n 10 L (.ref x :: st) h) := tm_r_aload (j := 5) (by decide +kernel) rfl
theorem ws_N_moves_10 : tm_s M_N_moves d u0 Q u S n 10 L st h = tm_gI L 3 (fun x => tm_w M_N_moves d u0 Q u S n 11 L (.int x :: st) h) := tm_r_iload_n (i := 3) (by decide +kernel) rfl rfl
theorem dd_N_moves_11 : decode (tm_cc M_N_moves) 11 = .ok (.invokestatic 147, 3) := by decide +kernel
theorem ws_N_moves_11 : tm_s M_N_moves d u0 Q u S n 11 L st h = tm_T M_N_moves d u0 Q u 11 L st h := tm_r_invs dd_N_moves_11
theorem ws_N_moves_14 : tm_s M_N_moves d u0 Q u S n 14 L st h = tm_gA L 5 (fun x => tm_w M_N_moves d u0 Q u S n 16 L (.ref x :: st) h) := tm_r_aload (j := 5) (by decide +kernel) rfl
theorem ws_N_moves_16 : tm_s M_N_moves d u0 Q u S n 16 L st h = tm_gI L 4 (fun x => tm_w M_N_moves d u0 Q u S n 18 L (.int x :: st) h) := tm_r_iload (j := 4) (by decide +kernel) rfl
theorem dd_N_moves_18 : decode (tm_cc M_N_moves) 18 = .ok (.invokestatic 125, 3) := by decide +kernel
theorem ws_N_moves_18 : tm_s M_N_moves d u0 Q u S n 18 L st h = tm_T M_N_moves d u0 Q u 18 L st h := tm_r_invs dd_N_moves_18
theorem ws_N_moves_21 : tm_s M_N_moves d u0 Q u S n 21 L st h = tm_gA L 0 (fun x => tm_w M_N_moves d u0 Q u S n 22 L (.ref x :: st) h) := tm_r_aload_n (i := 0) (by decide +kernel) rfl rfl
theorem ws_N_moves_22 : tm_s M_N_moves d u0 Q u S n 22 L st h = tm_pA st (fun a r => tm_cO (h a) 0 (fun fs => tm_fv fs 4 (fun v => tm_w M_N_moves d u0 Q u S n 25 L (v :: r) h))) := tm_r_getf (i := 33) (by decide +kernel) rfl (by decide +kernel)
theorem ws_N_moves_25 : tm_s M_N_moves d u0 Q u S n 25 L st h = tm_gA L 5 (fun x => tm_w M_N_moves d u0 Q u S n 27 L (.ref x :: st) h) := tm_r_aload (j := 5) (by decide +kernel) rfl
theorem ws_N_moves_27 : tm_s M_N_moves d u0 Q u S n 27 L st h = tm_gI L 2 (fun x => tm_w M_N_moves d u0 Q u S n 28 L (.int x :: st) h) := tm_r_iload_n (i := 2) (by decide +kernel) rfl rfl
theorem ws_N_moves_28 : tm_s M_N_moves d u0 Q u S n 28 L st h = tm_gI L 3 (fun x => tm_w M_N_moves d u0 Q u S n 29 L (.int x :: st) h) := tm_r_iload_n (i := 3) (by decide +kernel) rfl rfl
theorem ws_N_moves_29 : tm_s M_N_moves d u0 Q u S n 29 L st h = tm_gI L 4 (fun x => tm_w M_N_moves d u0 Q u S n 31 L (.int x :: st) h) := tm_r_iload (j := 4) (by decide +kernel) rfl
theorem dd_N_moves_31 : decode (tm_cc M_N_moves) 31 = .ok (.invokevirtual 150, 3) := by decide +kernel
theorem ws_N_moves_31 : tm_s M_N_moves d u0 Q u S n 31 L st h = tm_T M_N_moves d u0 Q u 31 L st h := tm_r_invv dd_N_moves_31
theorem ws_N_moves_34 : tm_s M_N_moves d u0 Q u S n 34 L st h = tm_p1 st (fun x r => r = [] ∧ (x = 0 ∨ x = 1) ∧ Q (.inl (some (.int x))) h) := tm_r_zret (by decide +kernel) rfl
theorem ws_N_graphOf_0 : tm_s M_N_graphOf d u0 Q u S n 0 L st h = tm_gI L 1 (fun x => tm_w M_N_graphOf d u0 Q u S n 1 L (.int x :: st) h) := tm_r_iload_n (i := 1) (by decide +kernel) rfl rfl
theorem ws_N_graphOf_1 : tm_s M_N_graphOf d u0 Q u S n 1 L st h = tm_p1 st (fun x r => (x < 0 → tm_w M_N_graphOf d u0 Q u S n 9 L r h) ∧ (¬ x < 0 → tm_w M_N_graphOf d u0 Q u S n 4 L r h)) := tm_r_iflt (off := 8) (by decide +kernel) rfl rfl
theorem ws_N_graphOf_4 : tm_s M_N_graphOf d u0 Q u S n 4 L st h = tm_gI L 1 (fun x => tm_w M_N_graphOf d u0 Q u S n 5 L (.int x :: st) h) := tm_r_iload_n (i := 1) (by decide +kernel) rfl rfl
theorem ws_N_graphOf_5 : tm_s M_N_graphOf d u0 Q u S n 5 L st h = tm_w M_N_graphOf d u0 Q u S n 6 L (.int 3 :: st) h := tm_r_iconst (k := 3) (by decide +kernel) rfl (by decide)
theorem ws_N_graphOf_6 : tm_s M_N_graphOf d u0 Q u S n 6 L st h = tm_p1 st (fun y r => tm_p1 r (fun x r => (x < y → tm_w M_N_graphOf d u0 Q u S n 19 L r h) ∧ (¬ x < y → tm_w M_N_graphOf d u0 Q u S n 9 L r h))) := tm_r_iclt (off := 13) (by decide +kernel) rfl rfl
theorem dd_N_graphOf_9 : decode (tm_cc M_N_graphOf) 9 = .ok (.new 154, 3) := by decide +kernel
theorem ws_N_graphOf_9 : tm_s M_N_graphOf d u0 Q u S n 9 L st h = tm_T M_N_graphOf d u0 Q u 9 L st h := tm_r_new dd_N_graphOf_9
theorem dd_N_graphOf_12 : decode (tm_cc M_N_graphOf) 12 = .ok (.dup, 1) := by decide +kernel
theorem dd_N_graphOf_13 : decode (tm_cc M_N_graphOf) 13 = .ok (.ldc 156, 2) := by decide +kernel
theorem dd_N_graphOf_15 : decode (tm_cc M_N_graphOf) 15 = .ok (.invokespecial 158, 3) := by decide +kernel
theorem dd_N_graphOf_18 : decode (tm_cc M_N_graphOf) 18 = .ok (.athrow, 1) := by decide +kernel
theorem ws_N_graphOf_19 : tm_s M_N_graphOf d u0 Q u S n 19 L st h = tm_gA L 0 (fun x => tm_w M_N_graphOf d u0 Q u S n 20 L (.ref x :: st) h) := tm_r_aload_n (i := 0) (by decide +kernel) rfl rfl
theorem ws_N_graphOf_20 : tm_s M_N_graphOf d u0 Q u S n 20 L st h = tm_pA st (fun a r => tm_cO (h a) 0 (fun fs => tm_fv fs 0 (fun v => tm_w M_N_graphOf d u0 Q u S n 23 L (v :: r) h))) := tm_r_getf (i := 11) (by decide +kernel) rfl (by decide +kernel)
theorem ws_N_graphOf_23 : tm_s M_N_graphOf d u0 Q u S n 23 L st h = tm_gI L 1 (fun x => tm_w M_N_graphOf d u0 Q u S n 24 L (.int x :: st) h) := tm_r_iload_n (i := 1) (by decide +kernel) rfl rfl
theorem ws_N_graphOf_24 : tm_s M_N_graphOf d u0 Q u S n 24 L st h = tm_p1 st (fun i r => tm_pA r (fun a r => tm_cQ (h a) (fun k f => vp_in i k ∧ tm_rq (f i.toNatClampNeg) (fun b => tm_w M_N_graphOf d u0 Q u S n 25 L (.ref b :: r) h)))) := tm_r_aaload (by decide +kernel) rfl
theorem ws_N_graphOf_25 : tm_s M_N_graphOf d u0 Q u S n 25 L st h = tm_pA st (fun x r => r = [] ∧ Q (.inl (some (.ref x))) h) := tm_r_aret (by decide +kernel) rfl
theorem ws_N_graphWith_0 : tm_s M_N_graphWith d u0 Q u S n 0 L st h = tm_gA L 0 (fun x => tm_w M_N_graphWith d u0 Q u S n 1 L (.ref x :: st) h) := tm_r_aload_n (i := 0) (by decide +kernel) rfl rfl
theorem ws_N_graphWith_1 : tm_s M_N_graphWith d u0 Q u S n 1 L st h = tm_gI L 1 (fun x => tm_w M_N_graphWith d u0 Q u S n 2 L (.int x :: st) h) := tm_r_iload_n (i := 1) (by decide +kernel) rfl rfl
theorem dd_N_graphWith_2 : decode (tm_cc M_N_graphWith) 2 = .ok (.invokevirtual 44, 3) := by decide +kernel
theorem ws_N_graphWith_2 : tm_s M_N_graphWith d u0 Q u S n 2 L st h = tm_T M_N_graphWith d u0 Q u 2 L st h := tm_r_invv dd_N_graphWith_2
theorem ws_N_graphWith_5 : tm_s M_N_graphWith d u0 Q u S n 5 L st h = tm_pA st (fun x r => tm_w M_N_graphWith d u0 Q u S n 6 (L.set 3 (some (.ref x))) r h) := tm_r_astore_n (i := 3) (by decide +kernel) rfl rfl (by decide)
theorem ws_N_graphWith_6 : tm_s M_N_graphWith d u0 Q u S n 6 L st h = tm_gA L 3 (fun x => tm_w M_N_graphWith d u0 Q u S n 7 L (.ref x :: st) h) := tm_r_aload_n (i := 3) (by decide +kernel) rfl rfl
theorem ws_N_graphWith_7 : tm_s M_N_graphWith d u0 Q u S n 7 L st h = tm_gI L 2 (fun x => tm_w M_N_graphWith d u0 Q u S n 8 L (.int x :: st) h) := tm_r_iload_n (i := 2) (by decide +kernel) rfl rfl
theorem dd_N_graphWith_8 : decode (tm_cc M_N_graphWith) 8 = .ok (.invokestatic 147, 3) := by decide +kernel
theorem ws_N_graphWith_8 : tm_s M_N_graphWith d u0 Q u S n 8 L st h = tm_T M_N_graphWith d u0 Q u 8 L st h := tm_r_invs dd_N_graphWith_8
theorem ws_N_graphWith_11 : tm_s M_N_graphWith d u0 Q u S n 11 L st h = tm_gA L 3 (fun x => tm_w M_N_graphWith d u0 Q u S n 12 L (.ref x :: st) h) := tm_r_aload_n (i := 3) (by decide +kernel) rfl rfl
theorem ws_N_graphWith_12 : tm_s M_N_graphWith d u0 Q u S n 12 L st h = tm_pA st (fun x r => r = [] ∧ Q (.inl (some (.ref x))) h) := tm_r_aret (by decide +kernel) rfl
theorem ws_N_graphWithPair_0 : tm_s M_N_graphWithPair d u0 Q u S n 0 L st h = tm_gA L 0 (fun x => tm_w M_N_graphWithPair d u0 Q u S n 1 L (.ref x :: st) h) := tm_r_aload_n (i := 0) (by decide +kernel) rfl rfl
theorem ws_N_graphWithPair_1 : tm_s M_N_graphWithPair d u0 Q u S n 1 L st h = tm_gI L 1 (fun x => tm_w M_N_graphWithPair d u0 Q u S n 2 L (.int x :: st) h) := tm_r_iload_n (i := 1) (by decide +kernel) rfl rfl
theorem ws_N_graphWithPair_2 : tm_s M_N_graphWithPair d u0 Q u S n 2 L st h = tm_gI L 2 (fun x => tm_w M_N_graphWithPair d u0 Q u S n 3 L (.int x :: st) h) := tm_r_iload_n (i := 2) (by decide +kernel) rfl rfl
theorem dd_N_graphWithPair_3 : decode (tm_cc M_N_graphWithPair) 3 = .ok (.invokevirtual 67, 3) := by decide +kernel
theorem ws_N_graphWithPair_3 : tm_s M_N_graphWithPair d u0 Q u S n 3 L st h = tm_T M_N_graphWithPair d u0 Q u 3 L st h := tm_r_invv dd_N_graphWithPair_3
theorem ws_N_graphWithPair_6 : tm_s M_N_graphWithPair d u0 Q u S n 6 L st h = tm_pA st (fun x r => tm_w M_N_graphWithPair d u0 Q u S n 8 (L.set 4 (some (.ref x))) r h) := tm_r_astore (j := 4) (by decide +kernel) rfl (by decide)
theorem ws_N_graphWithPair_8 : tm_s M_N_graphWithPair d u0 Q u S n 8 L st h = tm_gA L 4 (fun x => tm_w M_N_graphWithPair d u0 Q u S n 10 L (.ref x :: st) h) := tm_r_aload (j := 4) (by decide +kernel) rfl
theorem ws_N_graphWithPair_10 : tm_s M_N_graphWithPair d u0 Q u S n 10 L st h = tm_gI L 3 (fun x => tm_w M_N_graphWithPair d u0 Q u S n 11 L (.int x :: st) h) := tm_r_iload_n (i := 3) (by decide +kernel) rfl rfl
theorem dd_N_graphWithPair_11 : decode (tm_cc M_N_graphWithPair) 11 = .ok (.invokestatic 147, 3) := by decide +kernel
theorem ws_N_graphWithPair_11 : tm_s M_N_graphWithPair d u0 Q u S n 11 L st h = tm_T M_N_graphWithPair d u0 Q u 11 L st h := tm_r_invs dd_N_graphWithPair_11
theorem ws_N_graphWithPair_14 : tm_s M_N_graphWithPair d u0 Q u S n 14 L st h = tm_gI L 2 (fun x => tm_w M_N_graphWithPair d u0 Q u S n 15 L (.int x :: st) h) := tm_r_iload_n (i := 2) (by decide +kernel) rfl rfl
theorem ws_N_graphWithPair_15 : tm_s M_N_graphWithPair d u0 Q u S n 15 L st h = tm_gI L 3 (fun x => tm_w M_N_graphWithPair d u0 Q u S n 16 L (.int x :: st) h) := tm_r_iload_n (i := 3) (by decide +kernel) rfl rfl
theorem ws_N_graphWithPair_16 : tm_s M_N_graphWithPair d u0 Q u S n 16 L st h = tm_p1 st (fun y r => tm_p1 r (fun x r => (¬ x = y → tm_w M_N_graphWithPair d u0 Q u S n 29 L r h) ∧ (¬ ¬ x = y → tm_w M_N_graphWithPair d u0 Q u S n 19 L r h))) := tm_r_icne (off := 13) (by decide +kernel) rfl rfl
theorem dd_N_graphWithPair_19 : decode (tm_cc M_N_graphWithPair) 19 = .ok (.new 159, 3) := by decide +kernel
theorem ws_N_graphWithPair_19 : tm_s M_N_graphWithPair d u0 Q u S n 19 L st h = tm_T M_N_graphWithPair d u0 Q u 19 L st h := tm_r_new dd_N_graphWithPair_19
theorem dd_N_graphWithPair_22 : decode (tm_cc M_N_graphWithPair) 22 = .ok (.dup, 1) := by decide +kernel
theorem dd_N_graphWithPair_23 : decode (tm_cc M_N_graphWithPair) 23 = .ok (.ldc 161, 2) := by decide +kernel
theorem dd_N_graphWithPair_25 : decode (tm_cc M_N_graphWithPair) 25 = .ok (.invokespecial 163, 3) := by decide +kernel
theorem dd_N_graphWithPair_28 : decode (tm_cc M_N_graphWithPair) 28 = .ok (.athrow, 1) := by decide +kernel
theorem ws_N_graphWithPair_29 : tm_s M_N_graphWithPair d u0 Q u S n 29 L st h = tm_gA L 4 (fun x => tm_w M_N_graphWithPair d u0 Q u S n 31 L (.ref x :: st) h) := tm_r_aload (j := 4) (by decide +kernel) rfl
theorem ws_N_graphWithPair_31 : tm_s M_N_graphWithPair d u0 Q u S n 31 L st h = tm_pA st (fun x r => r = [] ∧ Q (.inl (some (.ref x))) h) := tm_r_aret (by decide +kernel) rfl
theorem ws_N_needVertex_0 : tm_s M_N_needVertex d u0 Q u S n 0 L st h = tm_gI L 1 (fun x => tm_w M_N_needVertex d u0 Q u S n 1 L (.int x :: st) h) := tm_r_iload_n (i := 1) (by decide +kernel) rfl rfl
theorem ws_N_needVertex_1 : tm_s M_N_needVertex d u0 Q u S n 1 L st h = tm_p1 st (fun x r => (x < 0 → tm_w M_N_needVertex d u0 Q u S n 12 L r h) ∧ (¬ x < 0 → tm_w M_N_needVertex d u0 Q u S n 4 L r h)) := tm_r_iflt (off := 11) (by decide +kernel) rfl rfl
theorem ws_N_needVertex_4 : tm_s M_N_needVertex d u0 Q u S n 4 L st h = tm_gI L 1 (fun x => tm_w M_N_needVertex d u0 Q u S n 5 L (.int x :: st) h) := tm_r_iload_n (i := 1) (by decide +kernel) rfl rfl
theorem ws_N_needVertex_5 : tm_s M_N_needVertex d u0 Q u S n 5 L st h = tm_gA L 0 (fun x => tm_w M_N_needVertex d u0 Q u S n 6 L (.ref x :: st) h) := tm_r_aload_n (i := 0) (by decide +kernel) rfl rfl
theorem ws_N_needVertex_6 : tm_s M_N_needVertex d u0 Q u S n 6 L st h = tm_pA st (fun a r => tm_cO (h a) 1 (fun fs => tm_fv fs 0 (fun v => tm_w M_N_needVertex d u0 Q u S n 9 L (v :: r) h))) := tm_r_getf (i := 52) (by decide +kernel) rfl (by decide +kernel)
theorem ws_N_needVertex_9 : tm_s M_N_needVertex d u0 Q u S n 9 L st h = tm_p1 st (fun y r => tm_p1 r (fun x r => (x < y → tm_w M_N_needVertex d u0 Q u S n 22 L r h) ∧ (¬ x < y → tm_w M_N_needVertex d u0 Q u S n 12 L r h))) := tm_r_iclt (off := 13) (by decide +kernel) rfl rfl
theorem dd_N_needVertex_12 : decode (tm_cc M_N_needVertex) 12 = .ok (.new 154, 3) := by decide +kernel
theorem ws_N_needVertex_12 : tm_s M_N_needVertex d u0 Q u S n 12 L st h = tm_T M_N_needVertex d u0 Q u 12 L st h := tm_r_new dd_N_needVertex_12
theorem dd_N_needVertex_15 : decode (tm_cc M_N_needVertex) 15 = .ok (.dup, 1) := by decide +kernel
theorem dd_N_needVertex_16 : decode (tm_cc M_N_needVertex) 16 = .ok (.ldc 164, 2) := by decide +kernel
theorem dd_N_needVertex_18 : decode (tm_cc M_N_needVertex) 18 = .ok (.invokespecial 158, 3) := by decide +kernel
theorem dd_N_needVertex_21 : decode (tm_cc M_N_needVertex) 21 = .ok (.athrow, 1) := by decide +kernel
theorem ws_N_needVertex_22 : tm_s M_N_needVertex d u0 Q u S n 22 L st h = (st = [] ∧ Q (.inl none) h) := tm_r_vret (by decide +kernel) rfl
theorem ws_N_needSet_0 : tm_s M_N_needSet d u0 Q u S n 0 L st h = tm_gI L 1 (fun x => tm_w M_N_needSet d u0 Q u S n 1 L (.int x :: st) h) := tm_r_iload_n (i := 1) (by decide +kernel) rfl rfl
theorem ws_N_needSet_1 : tm_s M_N_needSet d u0 Q u S n 1 L st h = tm_gA L 0 (fun x => tm_w M_N_needSet d u0 Q u S n 2 L (.ref x :: st) h) := tm_r_aload_n (i := 0) (by decide +kernel) rfl rfl
theorem ws_N_needSet_2 : tm_s M_N_needSet d u0 Q u S n 2 L st h = tm_pA st (fun a r => tm_cO (h a) 1 (fun fs => tm_fv fs 0 (fun v => tm_w M_N_needSet d u0 Q u S n 5 L (v :: r) h))) := tm_r_getf (i := 52) (by decide +kernel) rfl (by decide +kernel)
theorem ws_N_needSet_5 : tm_s M_N_needSet d u0 Q u S n 5 L st h = tm_p1 st (fun y r => tm_p1 r (fun x r => tm_w M_N_needSet d u0 Q u S n 6 L (.int ((x.toUInt32 >>> (y.toUInt32 &&& Int32.toUInt32 31)).toInt32) :: r) h)) := tm_r_iushr (by decide +kernel) rfl
theorem ws_N_needSet_6 : tm_s M_N_needSet d u0 Q u S n 6 L st h = tm_p1 st (fun x r => (x = 0 → tm_w M_N_needSet d u0 Q u S n 19 L r h) ∧ (¬ x = 0 → tm_w M_N_needSet d u0 Q u S n 9 L r h)) := tm_r_ifeq (off := 13) (by decide +kernel) rfl rfl
theorem dd_N_needSet_9 : decode (tm_cc M_N_needSet) 9 = .ok (.new 154, 3) := by decide +kernel
theorem ws_N_needSet_9 : tm_s M_N_needSet d u0 Q u S n 9 L st h = tm_T M_N_needSet d u0 Q u 9 L st h := tm_r_new dd_N_needSet_9
theorem dd_N_needSet_12 : decode (tm_cc M_N_needSet) 12 = .ok (.dup, 1) := by decide +kernel
theorem dd_N_needSet_13 : decode (tm_cc M_N_needSet) 13 = .ok (.ldc 166, 2) := by decide +kernel
theorem dd_N_needSet_15 : decode (tm_cc M_N_needSet) 15 = .ok (.invokespecial 158, 3) := by decide +kernel
theorem dd_N_needSet_18 : decode (tm_cc M_N_needSet) 18 = .ok (.athrow, 1) := by decide +kernel
theorem ws_N_needSet_19 : tm_s M_N_needSet d u0 Q u S n 19 L st h = (st = [] ∧ Q (.inl none) h) := tm_r_vret (by decide +kernel) rfl
theorem ws_N_needColour_0 : tm_s M_N_needColour d u0 Q u S n 0 L st h = tm_gI L 0 (fun x => tm_w M_N_needColour d u0 Q u S n 1 L (.int x :: st) h) := tm_r_iload_n (i := 0) (by decide +kernel) rfl rfl
theorem ws_N_needColour_1 : tm_s M_N_needColour d u0 Q u S n 1 L st h = tm_p1 st (fun x r => (x < 0 → tm_w M_N_needColour d u0 Q u S n 9 L r h) ∧ (¬ x < 0 → tm_w M_N_needColour d u0 Q u S n 4 L r h)) := tm_r_iflt (off := 8) (by decide +kernel) rfl rfl
theorem ws_N_needColour_4 : tm_s M_N_needColour d u0 Q u S n 4 L st h = tm_gI L 0 (fun x => tm_w M_N_needColour d u0 Q u S n 5 L (.int x :: st) h) := tm_r_iload_n (i := 0) (by decide +kernel) rfl rfl
theorem ws_N_needColour_5 : tm_s M_N_needColour d u0 Q u S n 5 L st h = tm_w M_N_needColour d u0 Q u S n 6 L (.int 4 :: st) h := tm_r_iconst (k := 4) (by decide +kernel) rfl (by decide)
theorem ws_N_needColour_6 : tm_s M_N_needColour d u0 Q u S n 6 L st h = tm_p1 st (fun y r => tm_p1 r (fun x r => (x < y → tm_w M_N_needColour d u0 Q u S n 19 L r h) ∧ (¬ x < y → tm_w M_N_needColour d u0 Q u S n 9 L r h))) := tm_r_iclt (off := 13) (by decide +kernel) rfl rfl
theorem dd_N_needColour_9 : decode (tm_cc M_N_needColour) 9 = .ok (.new 159, 3) := by decide +kernel
theorem ws_N_needColour_9 : tm_s M_N_needColour d u0 Q u S n 9 L st h = tm_T M_N_needColour d u0 Q u 9 L st h := tm_r_new dd_N_needColour_9
theorem dd_N_needColour_12 : decode (tm_cc M_N_needColour) 12 = .ok (.dup, 1) := by decide +kernel
theorem dd_N_needColour_13 : decode (tm_cc M_N_needColour) 13 = .ok (.ldc 168, 2) := by decide +kernel
theorem dd_N_needColour_15 : decode (tm_cc M_N_needColour) 15 = .ok (.invokespecial 163, 3) := by decide +kernel
theorem dd_N_needColour_18 : decode (tm_cc M_N_needColour) 18 = .ok (.athrow, 1) := by decide +kernel
theorem ws_N_needColour_19 : tm_s M_N_needColour d u0 Q u S n 19 L st h = (st = [] ∧ Q (.inl none) h) := tm_r_vret (by decide +kernel) rfl
theorem ws_N_alike_0 : tm_s M_N_alike d u0 Q u S n 0 L st h = tm_gA L 0 (fun x => tm_w M_N_alike d u0 Q u S n 1 L (.ref x :: st) h) := tm_r_aload_n (i := 0) (by decide +kernel) rfl rfl
theorem ws_N_alike_1 : tm_s M_N_alike d u0 Q u S n 1 L st h = tm_pA st (fun a r => tm_cO (h a) 0 (fun fs => tm_fv fs 2 (fun v => tm_w M_N_alike d u0 Q u S n 4 L (v :: r) h))) := tm_r_getf (i := 23) (by decide +kernel) rfl (by decide +kernel)
theorem ws_N_alike_4 : tm_s M_N_alike d u0 Q u S n 4 L st h = tm_gA L 1 (fun x => tm_w M_N_alike d u0 Q u S n 5 L (.ref x :: st) h) := tm_r_aload_n (i := 1) (by decide +kernel) rfl rfl
theorem dd_N_alike_5 : decode (tm_cc M_N_alike) 5 = .ok (.invokevirtual 102, 3) := by decide +kernel
theorem ws_N_alike_5 : tm_s M_N_alike d u0 Q u S n 5 L st h = tm_T M_N_alike d u0 Q u 5 L st h := tm_r_invv dd_N_alike_5
theorem ws_N_alike_8 : tm_s M_N_alike d u0 Q u S n 8 L st h = tm_gA L 0 (fun x => tm_w M_N_alike d u0 Q u S n 9 L (.ref x :: st) h) := tm_r_aload_n (i := 0) (by decide +kernel) rfl rfl
theorem ws_N_alike_9 : tm_s M_N_alike d u0 Q u S n 9 L st h = tm_pA st (fun a r => tm_cO (h a) 0 (fun fs => tm_fv fs 3 (fun v => tm_w M_N_alike d u0 Q u S n 12 L (v :: r) h))) := tm_r_getf (i := 27) (by decide +kernel) rfl (by decide +kernel)
theorem ws_N_alike_12 : tm_s M_N_alike d u0 Q u S n 12 L st h = tm_gA L 2 (fun x => tm_w M_N_alike d u0 Q u S n 13 L (.ref x :: st) h) := tm_r_aload_n (i := 2) (by decide +kernel) rfl rfl
theorem dd_N_alike_13 : decode (tm_cc M_N_alike) 13 = .ok (.invokevirtual 102, 3) := by decide +kernel
theorem ws_N_alike_13 : tm_s M_N_alike d u0 Q u S n 13 L st h = tm_T M_N_alike d u0 Q u 13 L st h := tm_r_invv dd_N_alike_13
theorem ws_N_alike_16 : tm_s M_N_alike d u0 Q u S n 16 L st h = tm_gA L 1 (fun x => tm_w M_N_alike d u0 Q u S n 17 L (.ref x :: st) h) := tm_r_aload_n (i := 1) (by decide +kernel) rfl rfl
theorem ws_N_alike_17 : tm_s M_N_alike d u0 Q u S n 17 L st h = tm_gA L 2 (fun x => tm_w M_N_alike d u0 Q u S n 18 L (.ref x :: st) h) := tm_r_aload_n (i := 2) (by decide +kernel) rfl rfl
theorem dd_N_alike_18 : decode (tm_cc M_N_alike) 18 = .ok (.invokevirtual 170, 3) := by decide +kernel
theorem ws_N_alike_18 : tm_s M_N_alike d u0 Q u S n 18 L st h = tm_T M_N_alike d u0 Q u 18 L st h := tm_r_invv dd_N_alike_18
theorem ws_N_alike_21 : tm_s M_N_alike d u0 Q u S n 21 L st h = tm_p1 st (fun x r => (x = 0 → tm_w M_N_alike d u0 Q u S n 45 L r h) ∧ (¬ x = 0 → tm_w M_N_alike d u0 Q u S n 24 L r h)) := tm_r_ifeq (off := 24) (by decide +kernel) rfl rfl
theorem ws_N_alike_24 : tm_s M_N_alike d u0 Q u S n 24 L st h = tm_gA L 0 (fun x => tm_w M_N_alike d u0 Q u S n 25 L (.ref x :: st) h) := tm_r_aload_n (i := 0) (by decide +kernel) rfl rfl
theorem ws_N_alike_25 : tm_s M_N_alike d u0 Q u S n 25 L st h = tm_pA st (fun a r => tm_cO (h a) 0 (fun fs => tm_fv fs 2 (fun v => tm_w M_N_alike d u0 Q u S n 28 L (v :: r) h))) := tm_r_getf (i := 23) (by decide +kernel) rfl (by decide +kernel)
theorem ws_N_alike_28 : tm_s M_N_alike d u0 Q u S n 28 L st h = tm_pA st (fun a r => tm_cO (h a) 2 (fun fs => tm_fv fs 0 (fun v => tm_w M_N_alike d u0 Q u S n 31 L (v :: r) h))) := tm_r_getf (i := 118) (by decide +kernel) rfl (by decide +kernel)
theorem ws_N_alike_31 : tm_s M_N_alike d u0 Q u S n 31 L st h = tm_gA L 0 (fun x => tm_w M_N_alike d u0 Q u S n 32 L (.ref x :: st) h) := tm_r_aload_n (i := 0) (by decide +kernel) rfl rfl
theorem ws_N_alike_32 : tm_s M_N_alike d u0 Q u S n 32 L st h = tm_pA st (fun a r => tm_cO (h a) 0 (fun fs => tm_fv fs 3 (fun v => tm_w M_N_alike d u0 Q u S n 35 L (v :: r) h))) := tm_r_getf (i := 27) (by decide +kernel) rfl (by decide +kernel)
theorem ws_N_alike_35 : tm_s M_N_alike d u0 Q u S n 35 L st h = tm_pA st (fun a r => tm_cO (h a) 2 (fun fs => tm_fv fs 0 (fun v => tm_w M_N_alike d u0 Q u S n 38 L (v :: r) h))) := tm_r_getf (i := 118) (by decide +kernel) rfl (by decide +kernel)
theorem ws_N_alike_38 : tm_s M_N_alike d u0 Q u S n 38 L st h = tm_p1 st (fun y r => tm_p1 r (fun x r => (¬ x = y → tm_w M_N_alike d u0 Q u S n 45 L r h) ∧ (¬ ¬ x = y → tm_w M_N_alike d u0 Q u S n 41 L r h))) := tm_r_icne (off := 7) (by decide +kernel) rfl rfl
theorem ws_N_alike_41 : tm_s M_N_alike d u0 Q u S n 41 L st h = tm_w M_N_alike d u0 Q u S n 42 L (.int 1 :: st) h := tm_r_iconst (k := 1) (by decide +kernel) rfl (by decide)
theorem ws_N_alike_42 : tm_s M_N_alike d u0 Q u S n 42 L st h = tm_w M_N_alike d u0 Q u S n 46 L st h := tm_r_goto (off := 4) (by decide +kernel) rfl
theorem ws_N_alike_45 : tm_s M_N_alike d u0 Q u S n 45 L st h = tm_w M_N_alike d u0 Q u S n 46 L (.int 0 :: st) h := tm_r_iconst (k := 0) (by decide +kernel) rfl (by decide)
theorem ws_N_alike_46 : tm_s M_N_alike d u0 Q u S n 46 L st h = tm_p1 st (fun x r => r = [] ∧ (x = 0 ∨ x = 1) ∧ Q (.inl (some (.int x))) h) := tm_r_zret (by decide +kernel) rfl
theorem ws_N_contains_0 : tm_s M_N_contains d u0 Q u S n 0 L st h = tm_gI L 0 (fun x => tm_w M_N_contains d u0 Q u S n 1 L (.int x :: st) h) := tm_r_iload_n (i := 0) (by decide +kernel) rfl rfl
theorem ws_N_contains_1 : tm_s M_N_contains d u0 Q u S n 1 L st h = tm_gI L 1 (fun x => tm_w M_N_contains d u0 Q u S n 2 L (.int x :: st) h) := tm_r_iload_n (i := 1) (by decide +kernel) rfl rfl
theorem ws_N_contains_2 : tm_s M_N_contains d u0 Q u S n 2 L st h = tm_p1 st (fun y r => tm_p1 r (fun x r => tm_w M_N_contains d u0 Q u S n 3 L (.int (x >>> (y &&& 31)) :: r) h)) := tm_r_ishr (by decide +kernel) rfl
theorem ws_N_contains_3 : tm_s M_N_contains d u0 Q u S n 3 L st h = tm_w M_N_contains d u0 Q u S n 4 L (.int 1 :: st) h := tm_r_iconst (k := 1) (by decide +kernel) rfl (by decide)
theorem ws_N_contains_4 : tm_s M_N_contains d u0 Q u S n 4 L st h = tm_p1 st (fun y r => tm_p1 r (fun x r => tm_w M_N_contains d u0 Q u S n 5 L (.int (x &&& y) :: r) h)) := tm_r_iand (by decide +kernel) rfl
theorem ws_N_contains_5 : tm_s M_N_contains d u0 Q u S n 5 L st h = tm_p1 st (fun x r => (x = 0 → tm_w M_N_contains d u0 Q u S n 12 L r h) ∧ (¬ x = 0 → tm_w M_N_contains d u0 Q u S n 8 L r h)) := tm_r_ifeq (off := 7) (by decide +kernel) rfl rfl
theorem ws_N_contains_8 : tm_s M_N_contains d u0 Q u S n 8 L st h = tm_w M_N_contains d u0 Q u S n 9 L (.int 1 :: st) h := tm_r_iconst (k := 1) (by decide +kernel) rfl (by decide)
theorem ws_N_contains_9 : tm_s M_N_contains d u0 Q u S n 9 L st h = tm_w M_N_contains d u0 Q u S n 13 L st h := tm_r_goto (off := 4) (by decide +kernel) rfl
theorem ws_N_contains_12 : tm_s M_N_contains d u0 Q u S n 12 L st h = tm_w M_N_contains d u0 Q u S n 13 L (.int 0 :: st) h := tm_r_iconst (k := 0) (by decide +kernel) rfl (by decide)
theorem ws_N_contains_13 : tm_s M_N_contains d u0 Q u S n 13 L st h = tm_p1 st (fun x r => r = [] ∧ (x = 0 ∨ x = 1) ∧ Q (.inl (some (.int x))) h) := tm_r_zret (by decide +kernel) rfl
theorem ws_N_isLeast_0 : tm_s M_N_isLeast d u0 Q u S n 0 L st h = tm_gI L 1 (fun x => tm_w M_N_isLeast d u0 Q u S n 1 L (.int x :: st) h) := tm_r_iload_n (i := 1) (by decide +kernel) rfl rfl
theorem ws_N_isLeast_1 : tm_s M_N_isLeast d u0 Q u S n 1 L st h = tm_w M_N_isLeast d u0 Q u S n 2 L (.int 1 :: st) h := tm_r_iconst (k := 1) (by decide +kernel) rfl (by decide)
theorem ws_N_isLeast_2 : tm_s M_N_isLeast d u0 Q u S n 2 L st h = tm_gI L 0 (fun x => tm_w M_N_isLeast d u0 Q u S n 3 L (.int x :: st) h) := tm_r_iload_n (i := 0) (by decide +kernel) rfl rfl
theorem ws_N_isLeast_3 : tm_s M_N_isLeast d u0 Q u S n 3 L st h = tm_p1 st (fun y r => tm_p1 r (fun x r => tm_w M_N_isLeast d u0 Q u S n 4 L (.int (x <<< (y &&& 31)) :: r) h)) := tm_r_ishl (by decide +kernel) rfl
theorem ws_N_isLeast_4 : tm_s M_N_isLeast d u0 Q u S n 4 L st h = tm_w M_N_isLeast d u0 Q u S n 5 L (.int 1 :: st) h := tm_r_iconst (k := 1) (by decide +kernel) rfl (by decide)
theorem ws_N_isLeast_5 : tm_s M_N_isLeast d u0 Q u S n 5 L st h = tm_p1 st (fun y r => tm_p1 r (fun x r => tm_w M_N_isLeast d u0 Q u S n 6 L (.int (x - y) :: r) h)) := tm_r_isub (by decide +kernel) rfl
theorem ws_N_isLeast_6 : tm_s M_N_isLeast d u0 Q u S n 6 L st h = tm_p1 st (fun y r => tm_p1 r (fun x r => tm_w M_N_isLeast d u0 Q u S n 7 L (.int (x &&& y) :: r) h)) := tm_r_iand (by decide +kernel) rfl
theorem ws_N_isLeast_7 : tm_s M_N_isLeast d u0 Q u S n 7 L st h = tm_p1 st (fun x r => (¬ x = 0 → tm_w M_N_isLeast d u0 Q u S n 14 L r h) ∧ (¬ ¬ x = 0 → tm_w M_N_isLeast d u0 Q u S n 10 L r h)) := tm_r_ifne (off := 7) (by decide +kernel) rfl rfl
theorem ws_N_isLeast_10 : tm_s M_N_isLeast d u0 Q u S n 10 L st h = tm_w M_N_isLeast d u0 Q u S n 11 L (.int 1 :: st) h := tm_r_iconst (k := 1) (by decide +kernel) rfl (by decide)
theorem ws_N_isLeast_11 : tm_s M_N_isLeast d u0 Q u S n 11 L st h = tm_w M_N_isLeast d u0 Q u S n 15 L st h := tm_r_goto (off := 4) (by decide +kernel) rfl
theorem ws_N_isLeast_14 : tm_s M_N_isLeast d u0 Q u S n 14 L st h = tm_w M_N_isLeast d u0 Q u S n 15 L (.int 0 :: st) h := tm_r_iconst (k := 0) (by decide +kernel) rfl (by decide)
theorem ws_N_isLeast_15 : tm_s M_N_isLeast d u0 Q u S n 15 L st h = tm_p1 st (fun x r => r = [] ∧ (x = 0 ∨ x = 1) ∧ Q (.inl (some (.int x))) h) := tm_r_zret (by decide +kernel) rfl
end WSN
