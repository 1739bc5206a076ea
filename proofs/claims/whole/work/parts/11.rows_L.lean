section WSL
variable {d u0 u : Nat} {Q : tm_O → tm_Hp → Prop} {S : List Nat} {n : Nat} {L : List (Option Value)} {st : List Value} {h : tm_Hp}
theorem ws_L_vertex_0 : tm_s M_L_vertex d u0 Q u S n 0 L st h = tm_gA L 3 (fun x => tm_w M_L_vertex d u0 Q u S n 1 L (.ref x :: st) h) := tm_r_aload_n (i := 3) (by decide +kernel) rfl rfl
theorem ws_L_vertex_1 : tm_s M_L_vertex d u0 Q u S n 1 L st h = tm_w M_L_vertex d u0 Q u S n 2 L (.int 0 :: st) h := tm_r_iconst (k := 0) (by decide +kernel) rfl (by decide)
theorem ws_L_vertex_2 : tm_s M_L_vertex d u0 Q u S n 2 L st h = tm_gA L 0 (fun x => tm_w M_L_vertex d u0 Q u S n 3 L (.ref x :: st) h) := tm_r_aload_n (i := 0) (by decide +kernel) rfl rfl
theorem ws_L_vertex_3 : tm_s M_L_vertex d u0 Q u S n 3 L st h = tm_gI L 1 (fun x => tm_w M_L_vertex d u0 Q u S n 4 L (.int x :: st) h) := tm_r_iload_n (i := 1) (by decide +kernel) rfl rfl
theorem ws_L_vertex_4 : tm_s M_L_vertex d u0 Q u S n 4 L st h = tm_gI L 2 (fun x => tm_w M_L_vertex d u0 Q u S n 5 L (.int x :: st) h) := tm_r_iload_n (i := 2) (by decide +kernel) rfl rfl
theorem dd_L_vertex_5 : decode (tm_cc M_L_vertex) 5 = .ok (.invokevirtual 7, 3) := by decide +kernel
theorem ws_L_vertex_5 : tm_s M_L_vertex d u0 Q u S n 5 L st h = tm_T M_L_vertex d u0 Q u 5 L st h := tm_r_invv dd_L_vertex_5
theorem ws_L_vertex_8 : tm_s M_L_vertex d u0 Q u S n 8 L st h = tm_p1 st (fun x r => tm_w M_L_vertex d u0 Q u S n 9 L (.long x.toInt64 :: r) h) := tm_r_i2l (by decide +kernel) rfl
theorem ws_L_vertex_9 : tm_s M_L_vertex d u0 Q u S n 9 L st h = tm_pJ st (fun x r => tm_p1 r (fun i r => tm_pA r (fun a r => tm_cJ (h a) (fun k f => vp_in i k ∧ tm_w M_L_vertex d u0 Q u S n 10 L r (tm_up h a (tm_j k (vp_updL f i.toNatClampNeg x))))))) := tm_r_lastore (by decide +kernel) rfl
theorem ws_L_vertex_10 : tm_s M_L_vertex d u0 Q u S n 10 L st h = tm_w M_L_vertex d u0 Q u S n 25 L st h := tm_r_goto (off := 15) (by decide +kernel) rfl
theorem dd_L_vertex_13 : decode (tm_cc M_L_vertex) 13 = .ok (.astore 4, 2) := by decide +kernel
theorem dd_L_vertex_15 : decode (tm_cc M_L_vertex) 15 = .ok (.iconst 1, 1) := by decide +kernel
theorem dd_L_vertex_16 : decode (tm_cc M_L_vertex) 16 = .ok (.ireturn, 1) := by decide +kernel
theorem dd_L_vertex_17 : decode (tm_cc M_L_vertex) 17 = .ok (.astore 4, 2) := by decide +kernel
theorem dd_L_vertex_19 : decode (tm_cc M_L_vertex) 19 = .ok (.iconst 2, 1) := by decide +kernel
theorem dd_L_vertex_20 : decode (tm_cc M_L_vertex) 20 = .ok (.ireturn, 1) := by decide +kernel
theorem dd_L_vertex_21 : decode (tm_cc M_L_vertex) 21 = .ok (.astore 4, 2) := by decide +kernel
theorem dd_L_vertex_23 : decode (tm_cc M_L_vertex) 23 = .ok (.iconst 3, 1) := by decide +kernel
theorem dd_L_vertex_24 : decode (tm_cc M_L_vertex) 24 = .ok (.ireturn, 1) := by decide +kernel
theorem ws_L_vertex_25 : tm_s M_L_vertex d u0 Q u S n 25 L st h = tm_w M_L_vertex d u0 Q u S n 26 L (.int 0 :: st) h := tm_r_iconst (k := 0) (by decide +kernel) rfl (by decide)
theorem ws_L_vertex_26 : tm_s M_L_vertex d u0 Q u S n 26 L st h = tm_p1 st (fun x r => r = [] ∧ Q (.inl (some (.int x))) h) := tm_r_iret (by decide +kernel) rfl
theorem ws_L_paint_0 : tm_s M_L_paint d u0 Q u S n 0 L st h = tm_gA L 4 (fun x => tm_w M_L_paint d u0 Q u S n 2 L (.ref x :: st) h) := tm_r_aload (j := 4) (by decide +kernel) rfl
theorem ws_L_paint_2 : tm_s M_L_paint d u0 Q u S n 2 L st h = tm_w M_L_paint d u0 Q u S n 3 L (.int 0 :: st) h := tm_r_iconst (k := 0) (by decide +kernel) rfl (by decide)
theorem ws_L_paint_3 : tm_s M_L_paint d u0 Q u S n 3 L st h = tm_gA L 0 (fun x => tm_w M_L_paint d u0 Q u S n 4 L (.ref x :: st) h) := tm_r_aload_n (i := 0) (by decide +kernel) rfl rfl
theorem ws_L_paint_4 : tm_s M_L_paint d u0 Q u S n 4 L st h = tm_gI L 1 (fun x => tm_w M_L_paint d u0 Q u S n 5 L (.int x :: st) h) := tm_r_iload_n (i := 1) (by decide +kernel) rfl rfl
theorem ws_L_paint_5 : tm_s M_L_paint d u0 Q u S n 5 L st h = tm_gI L 2 (fun x => tm_w M_L_paint d u0 Q u S n 6 L (.int x :: st) h) := tm_r_iload_n (i := 2) (by decide +kernel) rfl rfl
theorem ws_L_paint_6 : tm_s M_L_paint d u0 Q u S n 6 L st h = tm_gI L 3 (fun x => tm_w M_L_paint d u0 Q u S n 7 L (.int x :: st) h) := tm_r_iload_n (i := 3) (by decide +kernel) rfl rfl
theorem dd_L_paint_7 : decode (tm_cc M_L_paint) 7 = .ok (.invokevirtual 19, 3) := by decide +kernel
theorem ws_L_paint_7 : tm_s M_L_paint d u0 Q u S n 7 L st h = tm_T M_L_paint d u0 Q u 7 L st h := tm_r_invv dd_L_paint_7
theorem ws_L_paint_10 : tm_s M_L_paint d u0 Q u S n 10 L st h = tm_p1 st (fun x r => tm_w M_L_paint d u0 Q u S n 11 L (.long x.toInt64 :: r) h) := tm_r_i2l (by decide +kernel) rfl
theorem ws_L_paint_11 : tm_s M_L_paint d u0 Q u S n 11 L st h = tm_pJ st (fun x r => tm_p1 r (fun i r => tm_pA r (fun a r => tm_cJ (h a) (fun k f => vp_in i k ∧ tm_w M_L_paint d u0 Q u S n 12 L r (tm_up h a (tm_j k (vp_updL f i.toNatClampNeg x))))))) := tm_r_lastore (by decide +kernel) rfl
theorem ws_L_paint_12 : tm_s M_L_paint d u0 Q u S n 12 L st h = tm_w M_L_paint d u0 Q u S n 23 L st h := tm_r_goto (off := 11) (by decide +kernel) rfl
theorem dd_L_paint_15 : decode (tm_cc M_L_paint) 15 = .ok (.astore 5, 2) := by decide +kernel
theorem dd_L_paint_17 : decode (tm_cc M_L_paint) 17 = .ok (.iconst 1, 1) := by decide +kernel
theorem dd_L_paint_18 : decode (tm_cc M_L_paint) 18 = .ok (.ireturn, 1) := by decide +kernel
theorem dd_L_paint_19 : decode (tm_cc M_L_paint) 19 = .ok (.astore 5, 2) := by decide +kernel
theorem dd_L_paint_21 : decode (tm_cc M_L_paint) 21 = .ok (.iconst 2, 1) := by decide +kernel
theorem dd_L_paint_22 : decode (tm_cc M_L_paint) 22 = .ok (.ireturn, 1) := by decide +kernel
theorem ws_L_paint_23 : tm_s M_L_paint d u0 Q u S n 23 L st h = tm_w M_L_paint d u0 Q u S n 24 L (.int 0 :: st) h := tm_r_iconst (k := 0) (by decide +kernel) rfl (by decide)
theorem ws_L_paint_24 : tm_s M_L_paint d u0 Q u S n 24 L st h = tm_p1 st (fun x r => r = [] ∧ Q (.inl (some (.int x))) h) := tm_r_iret (by decide +kernel) rfl
theorem ws_L_join_0 : tm_s M_L_join d u0 Q u S n 0 L st h = tm_gA L 4 (fun x => tm_w M_L_join d u0 Q u S n 2 L (.ref x :: st) h) := tm_r_aload (j := 4) (by decide +kernel) rfl
theorem ws_L_join_2 : tm_s M_L_join d u0 Q u S n 2 L st h = tm_w M_L_join d u0 Q u S n 3 L (.int 0 :: st) h := tm_r_iconst (k := 0) (by decide +kernel) rfl (by decide)
theorem ws_L_join_3 : tm_s M_L_join d u0 Q u S n 3 L st h = tm_gA L 0 (fun x => tm_w M_L_join d u0 Q u S n 4 L (.ref x :: st) h) := tm_r_aload_n (i := 0) (by decide +kernel) rfl rfl
theorem ws_L_join_4 : tm_s M_L_join d u0 Q u S n 4 L st h = tm_gI L 1 (fun x => tm_w M_L_join d u0 Q u S n 5 L (.int x :: st) h) := tm_r_iload_n (i := 1) (by decide +kernel) rfl rfl
theorem ws_L_join_5 : tm_s M_L_join d u0 Q u S n 5 L st h = tm_gI L 2 (fun x => tm_w M_L_join d u0 Q u S n 6 L (.int x :: st) h) := tm_r_iload_n (i := 2) (by decide +kernel) rfl rfl
theorem ws_L_join_6 : tm_s M_L_join d u0 Q u S n 6 L st h = tm_gI L 3 (fun x => tm_w M_L_join d u0 Q u S n 7 L (.int x :: st) h) := tm_r_iload_n (i := 3) (by decide +kernel) rfl rfl
theorem dd_L_join_7 : decode (tm_cc M_L_join) 7 = .ok (.invokevirtual 23, 3) := by decide +kernel
theorem ws_L_join_7 : tm_s M_L_join d u0 Q u S n 7 L st h = tm_T M_L_join d u0 Q u 7 L st h := tm_r_invv dd_L_join_7
theorem ws_L_join_10 : tm_s M_L_join d u0 Q u S n 10 L st h = tm_p1 st (fun x r => tm_w M_L_join d u0 Q u S n 11 L (.long x.toInt64 :: r) h) := tm_r_i2l (by decide +kernel) rfl
theorem ws_L_join_11 : tm_s M_L_join d u0 Q u S n 11 L st h = tm_pJ st (fun x r => tm_p1 r (fun i r => tm_pA r (fun a r => tm_cJ (h a) (fun k f => vp_in i k ∧ tm_w M_L_join d u0 Q u S n 12 L r (tm_up h a (tm_j k (vp_updL f i.toNatClampNeg x))))))) := tm_r_lastore (by decide +kernel) rfl
theorem ws_L_join_12 : tm_s M_L_join d u0 Q u S n 12 L st h = tm_w M_L_join d u0 Q u S n 27 L st h := tm_r_goto (off := 15) (by decide +kernel) rfl
theorem dd_L_join_15 : decode (tm_cc M_L_join) 15 = .ok (.astore 5, 2) := by decide +kernel
theorem dd_L_join_17 : decode (tm_cc M_L_join) 17 = .ok (.iconst 1, 1) := by decide +kernel
theorem dd_L_join_18 : decode (tm_cc M_L_join) 18 = .ok (.ireturn, 1) := by decide +kernel
theorem dd_L_join_19 : decode (tm_cc M_L_join) 19 = .ok (.astore 5, 2) := by decide +kernel
theorem dd_L_join_21 : decode (tm_cc M_L_join) 21 = .ok (.iconst 2, 1) := by decide +kernel
theorem dd_L_join_22 : decode (tm_cc M_L_join) 22 = .ok (.ireturn, 1) := by decide +kernel
theorem dd_L_join_23 : decode (tm_cc M_L_join) 23 = .ok (.astore 5, 2) := by decide +kernel
theorem dd_L_join_25 : decode (tm_cc M_L_join) 25 = .ok (.iconst 3, 1) := by decide +kernel
theorem dd_L_join_26 : decode (tm_cc M_L_join) 26 = .ok (.ireturn, 1) := by decide +kernel
theorem ws_L_join_27 : tm_s M_L_join d u0 Q u S n 27 L st h = tm_w M_L_join d u0 Q u S n 28 L (.int 0 :: st) h := tm_r_iconst (k := 0) (by decide +kernel) rfl (by decide)
theorem ws_L_join_28 : tm_s M_L_join d u0 Q u S n 28 L st h = tm_p1 st (fun x r => r = [] ∧ Q (.inl (some (.int x))) h) := tm_r_iret (by decide +kernel) rfl
theorem ws_L_part_0 : tm_s M_L_part d u0 Q u S n 0 L st h = tm_gA L 4 (fun x => tm_w M_L_part d u0 Q u S n 2 L (.ref x :: st) h) := tm_r_aload (j := 4) (by decide +kernel) rfl
theorem ws_L_part_2 : tm_s M_L_part d u0 Q u S n 2 L st h = tm_w M_L_part d u0 Q u S n 3 L (.int 0 :: st) h := tm_r_iconst (k := 0) (by decide +kernel) rfl (by decide)
theorem ws_L_part_3 : tm_s M_L_part d u0 Q u S n 3 L st h = tm_gA L 0 (fun x => tm_w M_L_part d u0 Q u S n 4 L (.ref x :: st) h) := tm_r_aload_n (i := 0) (by decide +kernel) rfl rfl
theorem ws_L_part_4 : tm_s M_L_part d u0 Q u S n 4 L st h = tm_gI L 1 (fun x => tm_w M_L_part d u0 Q u S n 5 L (.int x :: st) h) := tm_r_iload_n (i := 1) (by decide +kernel) rfl rfl
theorem ws_L_part_5 : tm_s M_L_part d u0 Q u S n 5 L st h = tm_gI L 2 (fun x => tm_w M_L_part d u0 Q u S n 6 L (.int x :: st) h) := tm_r_iload_n (i := 2) (by decide +kernel) rfl rfl
theorem ws_L_part_6 : tm_s M_L_part d u0 Q u S n 6 L st h = tm_gI L 3 (fun x => tm_w M_L_part d u0 Q u S n 7 L (.int x :: st) h) := tm_r_iload_n (i := 3) (by decide +kernel) rfl rfl
theorem dd_L_part_7 : decode (tm_cc M_L_part) 7 = .ok (.invokevirtual 26, 3) := by decide +kernel
theorem ws_L_part_7 : tm_s M_L_part d u0 Q u S n 7 L st h = tm_T M_L_part d u0 Q u 7 L st h := tm_r_invv dd_L_part_7
theorem ws_L_part_10 : tm_s M_L_part d u0 Q u S n 10 L st h = tm_p1 st (fun x r => tm_w M_L_part d u0 Q u S n 11 L (.long x.toInt64 :: r) h) := tm_r_i2l (by decide +kernel) rfl
theorem ws_L_part_11 : tm_s M_L_part d u0 Q u S n 11 L st h = tm_pJ st (fun x r => tm_p1 r (fun i r => tm_pA r (fun a r => tm_cJ (h a) (fun k f => vp_in i k ∧ tm_w M_L_part d u0 Q u S n 12 L r (tm_up h a (tm_j k (vp_updL f i.toNatClampNeg x))))))) := tm_r_lastore (by decide +kernel) rfl
theorem ws_L_part_12 : tm_s M_L_part d u0 Q u S n 12 L st h = tm_w M_L_part d u0 Q u S n 27 L st h := tm_r_goto (off := 15) (by decide +kernel) rfl
theorem dd_L_part_15 : decode (tm_cc M_L_part) 15 = .ok (.astore 5, 2) := by decide +kernel
theorem dd_L_part_17 : decode (tm_cc M_L_part) 17 = .ok (.iconst 1, 1) := by decide +kernel
theorem dd_L_part_18 : decode (tm_cc M_L_part) 18 = .ok (.ireturn, 1) := by decide +kernel
theorem dd_L_part_19 : decode (tm_cc M_L_part) 19 = .ok (.astore 5, 2) := by decide +kernel
theorem dd_L_part_21 : decode (tm_cc M_L_part) 21 = .ok (.iconst 2, 1) := by decide +kernel
theorem dd_L_part_22 : decode (tm_cc M_L_part) 22 = .ok (.ireturn, 1) := by decide +kernel
theorem dd_L_part_23 : decode (tm_cc M_L_part) 23 = .ok (.astore 5, 2) := by decide +kernel
theorem dd_L_part_25 : decode (tm_cc M_L_part) 25 = .ok (.iconst 3, 1) := by decide +kernel
theorem dd_L_part_26 : decode (tm_cc M_L_part) 26 = .ok (.ireturn, 1) := by decide +kernel
theorem ws_L_part_27 : tm_s M_L_part d u0 Q u S n 27 L st h = tm_w M_L_part d u0 Q u S n 28 L (.int 0 :: st) h := tm_r_iconst (k := 0) (by decide +kernel) rfl (by decide)
theorem ws_L_part_28 : tm_s M_L_part d u0 Q u S n 28 L st h = tm_p1 st (fun x r => r = [] ∧ Q (.inl (some (.int x))) h) := tm_r_iret (by decide +kernel) rfl
theorem ws_L_clear_0 : tm_s M_L_clear d u0 Q u S n 0 L st h = tm_gA L 2 (fun x => tm_w M_L_clear d u0 Q u S n 1 L (.ref x :: st) h) := tm_r_aload_n (i := 2) (by decide +kernel) rfl rfl
theorem ws_L_clear_1 : tm_s M_L_clear d u0 Q u S n 1 L st h = tm_w M_L_clear d u0 Q u S n 2 L (.int 0 :: st) h := tm_r_iconst (k := 0) (by decide +kernel) rfl (by decide)
theorem ws_L_clear_2 : tm_s M_L_clear d u0 Q u S n 2 L st h = tm_gA L 0 (fun x => tm_w M_L_clear d u0 Q u S n 3 L (.ref x :: st) h) := tm_r_aload_n (i := 0) (by decide +kernel) rfl rfl
theorem ws_L_clear_3 : tm_s M_L_clear d u0 Q u S n 3 L st h = tm_gI L 1 (fun x => tm_w M_L_clear d u0 Q u S n 4 L (.int x :: st) h) := tm_r_iload_n (i := 1) (by decide +kernel) rfl rfl
theorem dd_L_clear_4 : decode (tm_cc M_L_clear) 4 = .ok (.invokevirtual 29, 3) := by decide +kernel
theorem ws_L_clear_4 : tm_s M_L_clear d u0 Q u S n 4 L st h = tm_T M_L_clear d u0 Q u 4 L st h := tm_r_invv dd_L_clear_4
theorem ws_L_clear_7 : tm_s M_L_clear d u0 Q u S n 7 L st h = tm_p1 st (fun x r => tm_w M_L_clear d u0 Q u S n 8 L (.long x.toInt64 :: r) h) := tm_r_i2l (by decide +kernel) rfl
theorem ws_L_clear_8 : tm_s M_L_clear d u0 Q u S n 8 L st h = tm_pJ st (fun x r => tm_p1 r (fun i r => tm_pA r (fun a r => tm_cJ (h a) (fun k f => vp_in i k ∧ tm_w M_L_clear d u0 Q u S n 9 L r (tm_up h a (tm_j k (vp_updL f i.toNatClampNeg x))))))) := tm_r_lastore (by decide +kernel) rfl
theorem ws_L_clear_9 : tm_s M_L_clear d u0 Q u S n 9 L st h = tm_w M_L_clear d u0 Q u S n 15 L st h := tm_r_goto (off := 6) (by decide +kernel) rfl
theorem dd_L_clear_12 : decode (tm_cc M_L_clear) 12 = .ok (.astore_n 3, 1) := by decide +kernel
theorem dd_L_clear_13 : decode (tm_cc M_L_clear) 13 = .ok (.iconst 1, 1) := by decide +kernel
theorem dd_L_clear_14 : decode (tm_cc M_L_clear) 14 = .ok (.ireturn, 1) := by decide +kernel
theorem ws_L_clear_15 : tm_s M_L_clear d u0 Q u S n 15 L st h = tm_w M_L_clear d u0 Q u S n 16 L (.int 0 :: st) h := tm_r_iconst (k := 0) (by decide +kernel) rfl (by decide)
theorem ws_L_clear_16 : tm_s M_L_clear d u0 Q u S n 16 L st h = tm_p1 st (fun x r => r = [] ∧ Q (.inl (some (.int x))) h) := tm_r_iret (by decide +kernel) rfl
theorem ws_L_copy_0 : tm_s M_L_copy d u0 Q u S n 0 L st h = tm_gA L 3 (fun x => tm_w M_L_copy d u0 Q u S n 1 L (.ref x :: st) h) := tm_r_aload_n (i := 3) (by decide +kernel) rfl rfl
theorem ws_L_copy_1 : tm_s M_L_copy d u0 Q u S n 1 L st h = tm_w M_L_copy d u0 Q u S n 2 L (.int 0 :: st) h := tm_r_iconst (k := 0) (by decide +kernel) rfl (by decide)
theorem ws_L_copy_2 : tm_s M_L_copy d u0 Q u S n 2 L st h = tm_gA L 0 (fun x => tm_w M_L_copy d u0 Q u S n 3 L (.ref x :: st) h) := tm_r_aload_n (i := 0) (by decide +kernel) rfl rfl
theorem ws_L_copy_3 : tm_s M_L_copy d u0 Q u S n 3 L st h = tm_gI L 1 (fun x => tm_w M_L_copy d u0 Q u S n 4 L (.int x :: st) h) := tm_r_iload_n (i := 1) (by decide +kernel) rfl rfl
theorem ws_L_copy_4 : tm_s M_L_copy d u0 Q u S n 4 L st h = tm_gI L 2 (fun x => tm_w M_L_copy d u0 Q u S n 5 L (.int x :: st) h) := tm_r_iload_n (i := 2) (by decide +kernel) rfl rfl
theorem dd_L_copy_5 : decode (tm_cc M_L_copy) 5 = .ok (.invokevirtual 33, 3) := by decide +kernel
theorem ws_L_copy_5 : tm_s M_L_copy d u0 Q u S n 5 L st h = tm_T M_L_copy d u0 Q u 5 L st h := tm_r_invv dd_L_copy_5
theorem ws_L_copy_8 : tm_s M_L_copy d u0 Q u S n 8 L st h = tm_p1 st (fun x r => tm_w M_L_copy d u0 Q u S n 9 L (.long x.toInt64 :: r) h) := tm_r_i2l (by decide +kernel) rfl
theorem ws_L_copy_9 : tm_s M_L_copy d u0 Q u S n 9 L st h = tm_pJ st (fun x r => tm_p1 r (fun i r => tm_pA r (fun a r => tm_cJ (h a) (fun k f => vp_in i k ∧ tm_w M_L_copy d u0 Q u S n 10 L r (tm_up h a (tm_j k (vp_updL f i.toNatClampNeg x))))))) := tm_r_lastore (by decide +kernel) rfl
theorem ws_L_copy_10 : tm_s M_L_copy d u0 Q u S n 10 L st h = tm_w M_L_copy d u0 Q u S n 17 L st h := tm_r_goto (off := 7) (by decide +kernel) rfl
theorem dd_L_copy_13 : decode (tm_cc M_L_copy) 13 = .ok (.astore 4, 2) := by decide +kernel
theorem dd_L_copy_15 : decode (tm_cc M_L_copy) 15 = .ok (.iconst 1, 1) := by decide +kernel
theorem dd_L_copy_16 : decode (tm_cc M_L_copy) 16 = .ok (.ireturn, 1) := by decide +kernel
theorem ws_L_copy_17 : tm_s M_L_copy d u0 Q u S n 17 L st h = tm_w M_L_copy d u0 Q u S n 18 L (.int 0 :: st) h := tm_r_iconst (k := 0) (by decide +kernel) rfl (by decide)
theorem ws_L_copy_18 : tm_s M_L_copy d u0 Q u S n 18 L st h = tm_p1 st (fun x r => r = [] ∧ Q (.inl (some (.int x))) h) := tm_r_iret (by decide +kernel) rfl
theorem ws_L_turn_0 : tm_s M_L_turn d u0 Q u S n 0 L st h = tm_gA L 2 (fun x => tm_w M_L_turn d u0 Q u S n 1 L (.ref x :: st) h) := tm_r_aload_n (i := 2) (by decide +kernel) rfl rfl
theorem ws_L_turn_1 : tm_s M_L_turn d u0 Q u S n 1 L st h = tm_w M_L_turn d u0 Q u S n 2 L (.int 0 :: st) h := tm_r_iconst (k := 0) (by decide +kernel) rfl (by decide)
theorem ws_L_turn_2 : tm_s M_L_turn d u0 Q u S n 2 L st h = tm_gA L 0 (fun x => tm_w M_L_turn d u0 Q u S n 3 L (.ref x :: st) h) := tm_r_aload_n (i := 0) (by decide +kernel) rfl rfl
theorem ws_L_turn_3 : tm_s M_L_turn d u0 Q u S n 3 L st h = tm_gI L 1 (fun x => tm_w M_L_turn d u0 Q u S n 4 L (.int x :: st) h) := tm_r_iload_n (i := 1) (by decide +kernel) rfl rfl
theorem dd_L_turn_4 : decode (tm_cc M_L_turn) 4 = .ok (.invokevirtual 36, 3) := by decide +kernel
theorem ws_L_turn_4 : tm_s M_L_turn d u0 Q u S n 4 L st h = tm_T M_L_turn d u0 Q u 4 L st h := tm_r_invv dd_L_turn_4
theorem ws_L_turn_7 : tm_s M_L_turn d u0 Q u S n 7 L st h = tm_p1 st (fun x r => tm_w M_L_turn d u0 Q u S n 8 L (.long x.toInt64 :: r) h) := tm_r_i2l (by decide +kernel) rfl
theorem ws_L_turn_8 : tm_s M_L_turn d u0 Q u S n 8 L st h = tm_pJ st (fun x r => tm_p1 r (fun i r => tm_pA r (fun a r => tm_cJ (h a) (fun k f => vp_in i k ∧ tm_w M_L_turn d u0 Q u S n 9 L r (tm_up h a (tm_j k (vp_updL f i.toNatClampNeg x))))))) := tm_r_lastore (by decide +kernel) rfl
theorem ws_L_turn_9 : tm_s M_L_turn d u0 Q u S n 9 L st h = tm_w M_L_turn d u0 Q u S n 15 L st h := tm_r_goto (off := 6) (by decide +kernel) rfl
theorem dd_L_turn_12 : decode (tm_cc M_L_turn) 12 = .ok (.astore_n 3, 1) := by decide +kernel
theorem dd_L_turn_13 : decode (tm_cc M_L_turn) 13 = .ok (.iconst 1, 1) := by decide +kernel
theorem dd_L_turn_14 : decode (tm_cc M_L_turn) 14 = .ok (.ireturn, 1) := by decide +kernel
theorem ws_L_turn_15 : tm_s M_L_turn d u0 Q u S n 15 L st h = tm_w M_L_turn d u0 Q u S n 16 L (.int 0 :: st) h := tm_r_iconst (k := 0) (by decide +kernel) rfl (by decide)
theorem ws_L_turn_16 : tm_s M_L_turn d u0 Q u S n 16 L st h = tm_p1 st (fun x r => r = [] ∧ Q (.inl (some (.int x))) h) := tm_r_iret (by decide +kernel) rfl
theorem ws_L_settle_0 : tm_s M_L_settle d u0 Q u S n 0 L st h = tm_gA L 2 (fun x => tm_w M_L_settle d u0 Q u S n 1 L (.ref x :: st) h) := tm_r_aload_n (i := 2) (by decide +kernel) rfl rfl
theorem ws_L_settle_1 : tm_s M_L_settle d u0 Q u S n 1 L st h = tm_w M_L_settle d u0 Q u S n 2 L (.int 0 :: st) h := tm_r_iconst (k := 0) (by decide +kernel) rfl (by decide)
theorem ws_L_settle_2 : tm_s M_L_settle d u0 Q u S n 2 L st h = tm_gA L 0 (fun x => tm_w M_L_settle d u0 Q u S n 3 L (.ref x :: st) h) := tm_r_aload_n (i := 0) (by decide +kernel) rfl rfl
theorem ws_L_settle_3 : tm_s M_L_settle d u0 Q u S n 3 L st h = tm_gI L 1 (fun x => tm_w M_L_settle d u0 Q u S n 4 L (.int x :: st) h) := tm_r_iload_n (i := 1) (by decide +kernel) rfl rfl
theorem dd_L_settle_4 : decode (tm_cc M_L_settle) 4 = .ok (.invokevirtual 39, 3) := by decide +kernel
theorem ws_L_settle_4 : tm_s M_L_settle d u0 Q u S n 4 L st h = tm_T M_L_settle d u0 Q u 4 L st h := tm_r_invv dd_L_settle_4
theorem ws_L_settle_7 : tm_s M_L_settle d u0 Q u S n 7 L st h = tm_p1 st (fun x r => tm_w M_L_settle d u0 Q u S n 8 L (.long x.toInt64 :: r) h) := tm_r_i2l (by decide +kernel) rfl
theorem ws_L_settle_8 : tm_s M_L_settle d u0 Q u S n 8 L st h = tm_pJ st (fun x r => tm_p1 r (fun i r => tm_pA r (fun a r => tm_cJ (h a) (fun k f => vp_in i k ∧ tm_w M_L_settle d u0 Q u S n 9 L r (tm_up h a (tm_j k (vp_updL f i.toNatClampNeg x))))))) := tm_r_lastore (by decide +kernel) rfl
theorem ws_L_settle_9 : tm_s M_L_settle d u0 Q u S n 9 L st h = tm_w M_L_settle d u0 Q u S n 15 L st h := tm_r_goto (off := 6) (by decide +kernel) rfl
theorem dd_L_settle_12 : decode (tm_cc M_L_settle) 12 = .ok (.astore_n 3, 1) := by decide +kernel
theorem dd_L_settle_13 : decode (tm_cc M_L_settle) 13 = .ok (.iconst 1, 1) := by decide +kernel
theorem dd_L_settle_14 : decode (tm_cc M_L_settle) 14 = .ok (.ireturn, 1) := by decide +kernel
theorem ws_L_settle_15 : tm_s M_L_settle d u0 Q u S n 15 L st h = tm_w M_L_settle d u0 Q u S n 16 L (.int 0 :: st) h := tm_r_iconst (k := 0) (by decide +kernel) rfl (by decide)
theorem ws_L_settle_16 : tm_s M_L_settle d u0 Q u S n 16 L st h = tm_p1 st (fun x r => r = [] ∧ Q (.inl (some (.int x))) h) := tm_r_iret (by decide +kernel) rfl
theorem ws_L_size_0 : tm_s M_L_size d u0 Q u S n 0 L st h = tm_gA L 2 (fun x => tm_w M_L_size d u0 Q u S n 1 L (.ref x :: st) h) := tm_r_aload_n (i := 2) (by decide +kernel) rfl rfl
theorem ws_L_size_1 : tm_s M_L_size d u0 Q u S n 1 L st h = tm_w M_L_size d u0 Q u S n 2 L (.int 0 :: st) h := tm_r_iconst (k := 0) (by decide +kernel) rfl (by decide)
theorem ws_L_size_2 : tm_s M_L_size d u0 Q u S n 2 L st h = tm_gA L 0 (fun x => tm_w M_L_size d u0 Q u S n 3 L (.ref x :: st) h) := tm_r_aload_n (i := 0) (by decide +kernel) rfl rfl
theorem ws_L_size_3 : tm_s M_L_size d u0 Q u S n 3 L st h = tm_gI L 1 (fun x => tm_w M_L_size d u0 Q u S n 4 L (.int x :: st) h) := tm_r_iload_n (i := 1) (by decide +kernel) rfl rfl
theorem dd_L_size_4 : decode (tm_cc M_L_size) 4 = .ok (.invokevirtual 42, 3) := by decide +kernel
theorem ws_L_size_4 : tm_s M_L_size d u0 Q u S n 4 L st h = tm_T M_L_size d u0 Q u 4 L st h := tm_r_invv dd_L_size_4
theorem ws_L_size_7 : tm_s M_L_size d u0 Q u S n 7 L st h = tm_p1 st (fun x r => tm_w M_L_size d u0 Q u S n 8 L (.long x.toInt64 :: r) h) := tm_r_i2l (by decide +kernel) rfl
theorem ws_L_size_8 : tm_s M_L_size d u0 Q u S n 8 L st h = tm_pJ st (fun x r => tm_p1 r (fun i r => tm_pA r (fun a r => tm_cJ (h a) (fun k f => vp_in i k ∧ tm_w M_L_size d u0 Q u S n 9 L r (tm_up h a (tm_j k (vp_updL f i.toNatClampNeg x))))))) := tm_r_lastore (by decide +kernel) rfl
theorem ws_L_size_9 : tm_s M_L_size d u0 Q u S n 9 L st h = tm_w M_L_size d u0 Q u S n 15 L st h := tm_r_goto (off := 6) (by decide +kernel) rfl
theorem dd_L_size_12 : decode (tm_cc M_L_size) 12 = .ok (.astore_n 3, 1) := by decide +kernel
theorem dd_L_size_13 : decode (tm_cc M_L_size) 13 = .ok (.iconst 1, 1) := by decide +kernel
theorem dd_L_size_14 : decode (tm_cc M_L_size) 14 = .ok (.ireturn, 1) := by decide +kernel
theorem ws_L_size_15 : tm_s M_L_size d u0 Q u S n 15 L st h = tm_w M_L_size d u0 Q u S n 16 L (.int 0 :: st) h := tm_r_iconst (k := 0) (by decide +kernel) rfl (by decide)
theorem ws_L_size_16 : tm_s M_L_size d u0 Q u S n 16 L st h = tm_p1 st (fun x r => r = [] ∧ Q (.inl (some (.int x))) h) := tm_r_iret (by decide +kernel) rfl
theorem ws_L_beside_0 : tm_s M_L_beside d u0 Q u S n 0 L st h = tm_gA L 3 (fun x => tm_w M_L_beside d u0 Q u S n 1 L (.ref x :: st) h) := tm_r_aload_n (i := 3) (by decide +kernel) rfl rfl
theorem ws_L_beside_1 : tm_s M_L_beside d u0 Q u S n 1 L st h = tm_w M_L_beside d u0 Q u S n 2 L (.int 0 :: st) h := tm_r_iconst (k := 0) (by decide +kernel) rfl (by decide)
theorem ws_L_beside_2 : tm_s M_L_beside d u0 Q u S n 2 L st h = tm_gA L 0 (fun x => tm_w M_L_beside d u0 Q u S n 3 L (.ref x :: st) h) := tm_r_aload_n (i := 0) (by decide +kernel) rfl rfl
theorem ws_L_beside_3 : tm_s M_L_beside d u0 Q u S n 3 L st h = tm_gI L 1 (fun x => tm_w M_L_beside d u0 Q u S n 4 L (.int x :: st) h) := tm_r_iload_n (i := 1) (by decide +kernel) rfl rfl
theorem ws_L_beside_4 : tm_s M_L_beside d u0 Q u S n 4 L st h = tm_gI L 2 (fun x => tm_w M_L_beside d u0 Q u S n 5 L (.int x :: st) h) := tm_r_iload_n (i := 2) (by decide +kernel) rfl rfl
theorem dd_L_beside_5 : decode (tm_cc M_L_beside) 5 = .ok (.invokevirtual 45, 3) := by decide +kernel
theorem ws_L_beside_5 : tm_s M_L_beside d u0 Q u S n 5 L st h = tm_T M_L_beside d u0 Q u 5 L st h := tm_r_invv dd_L_beside_5
theorem ws_L_beside_8 : tm_s M_L_beside d u0 Q u S n 8 L st h = tm_p1 st (fun x r => tm_w M_L_beside d u0 Q u S n 9 L (.long x.toInt64 :: r) h) := tm_r_i2l (by decide +kernel) rfl
theorem ws_L_beside_9 : tm_s M_L_beside d u0 Q u S n 9 L st h = tm_pJ st (fun x r => tm_p1 r (fun i r => tm_pA r (fun a r => tm_cJ (h a) (fun k f => vp_in i k ∧ tm_w M_L_beside d u0 Q u S n 10 L r (tm_up h a (tm_j k (vp_updL f i.toNatClampNeg x))))))) := tm_r_lastore (by decide +kernel) rfl
theorem ws_L_beside_10 : tm_s M_L_beside d u0 Q u S n 10 L st h = tm_w M_L_beside d u0 Q u S n 17 L st h := tm_r_goto (off := 7) (by decide +kernel) rfl
theorem dd_L_beside_13 : decode (tm_cc M_L_beside) 13 = .ok (.astore 4, 2) := by decide +kernel
theorem dd_L_beside_15 : decode (tm_cc M_L_beside) 15 = .ok (.iconst 1, 1) := by decide +kernel
theorem dd_L_beside_16 : decode (tm_cc M_L_beside) 16 = .ok (.ireturn, 1) := by decide +kernel
theorem ws_L_beside_17 : tm_s M_L_beside d u0 Q u S n 17 L st h = tm_w M_L_beside d u0 Q u S n 18 L (.int 0 :: st) h := tm_r_iconst (k := 0) (by decide +kernel) rfl (by decide)
theorem ws_L_beside_18 : tm_s M_L_beside d u0 Q u S n 18 L st h = tm_p1 st (fun x r => r = [] ∧ Q (.inl (some (.int x))) h) := tm_r_iret (by decide +kernel) rfl
theorem ws_L_name_0 : tm_s M_L_name d u0 Q u S n 0 L st h = tm_gA L 2 (fun x => tm_w M_L_name d u0 Q u S n 1 L (.ref x :: st) h) := tm_r_aload_n (i := 2) (by decide +kernel) rfl rfl
theorem ws_L_name_1 : tm_s M_L_name d u0 Q u S n 1 L st h = tm_w M_L_name d u0 Q u S n 2 L (.int 0 :: st) h := tm_r_iconst (k := 0) (by decide +kernel) rfl (by decide)
theorem ws_L_name_2 : tm_s M_L_name d u0 Q u S n 2 L st h = tm_gA L 0 (fun x => tm_w M_L_name d u0 Q u S n 3 L (.ref x :: st) h) := tm_r_aload_n (i := 0) (by decide +kernel) rfl rfl
theorem ws_L_name_3 : tm_s M_L_name d u0 Q u S n 3 L st h = tm_gI L 1 (fun x => tm_w M_L_name d u0 Q u S n 4 L (.int x :: st) h) := tm_r_iload_n (i := 1) (by decide +kernel) rfl rfl
theorem dd_L_name_4 : decode (tm_cc M_L_name) 4 = .ok (.invokevirtual 48, 3) := by decide +kernel
theorem ws_L_name_4 : tm_s M_L_name d u0 Q u S n 4 L st h = tm_T M_L_name d u0 Q u 4 L st h := tm_r_invv dd_L_name_4
theorem ws_L_name_7 : tm_s M_L_name d u0 Q u S n 7 L st h = tm_p1 st (fun x r => tm_w M_L_name d u0 Q u S n 8 L (.long x.toInt64 :: r) h) := tm_r_i2l (by decide +kernel) rfl
theorem ws_L_name_8 : tm_s M_L_name d u0 Q u S n 8 L st h = tm_pJ st (fun x r => tm_p1 r (fun i r => tm_pA r (fun a r => tm_cJ (h a) (fun k f => vp_in i k ∧ tm_w M_L_name d u0 Q u S n 9 L r (tm_up h a (tm_j k (vp_updL f i.toNatClampNeg x))))))) := tm_r_lastore (by decide +kernel) rfl
theorem ws_L_name_9 : tm_s M_L_name d u0 Q u S n 9 L st h = tm_w M_L_name d u0 Q u S n 15 L st h := tm_r_goto (off := 6) (by decide +kernel) rfl
theorem dd_L_name_12 : decode (tm_cc M_L_name) 12 = .ok (.astore_n 3, 1) := by decide +kernel
theorem dd_L_name_13 : decode (tm_cc M_L_name) 13 = .ok (.iconst 1, 1) := by decide +kernel
theorem dd_L_name_14 : decode (tm_cc M_L_name) 14 = .ok (.ireturn, 1) := by decide +kernel
theorem ws_L_name_15 : tm_s M_L_name d u0 Q u S n 15 L st h = tm_w M_L_name d u0 Q u S n 16 L (.int 0 :: st) h := tm_r_iconst (k := 0) (by decide +kernel) rfl (by decide)
theorem ws_L_name_16 : tm_s M_L_name d u0 Q u S n 16 L st h = tm_p1 st (fun x r => r = [] ∧ Q (.inl (some (.int x))) h) := tm_r_iret (by decide +kernel) rfl
theorem ws_L_place_0 : tm_s M_L_place d u0 Q u S n 0 L st h = tm_gA L 3 (fun x => tm_w M_L_place d u0 Q u S n 1 L (.ref x :: st) h) := tm_r_aload_n (i := 3) (by decide +kernel) rfl rfl
theorem ws_L_place_1 : tm_s M_L_place d u0 Q u S n 1 L st h = tm_w M_L_place d u0 Q u S n 2 L (.int 0 :: st) h := tm_r_iconst (k := 0) (by decide +kernel) rfl (by decide)
theorem ws_L_place_2 : tm_s M_L_place d u0 Q u S n 2 L st h = tm_gA L 0 (fun x => tm_w M_L_place d u0 Q u S n 3 L (.ref x :: st) h) := tm_r_aload_n (i := 0) (by decide +kernel) rfl rfl
theorem ws_L_place_3 : tm_s M_L_place d u0 Q u S n 3 L st h = tm_gI L 1 (fun x => tm_w M_L_place d u0 Q u S n 4 L (.int x :: st) h) := tm_r_iload_n (i := 1) (by decide +kernel) rfl rfl
theorem ws_L_place_4 : tm_s M_L_place d u0 Q u S n 4 L st h = tm_gI L 2 (fun x => tm_w M_L_place d u0 Q u S n 5 L (.int x :: st) h) := tm_r_iload_n (i := 2) (by decide +kernel) rfl rfl
theorem dd_L_place_5 : decode (tm_cc M_L_place) 5 = .ok (.invokevirtual 51, 3) := by decide +kernel
theorem ws_L_place_5 : tm_s M_L_place d u0 Q u S n 5 L st h = tm_T M_L_place d u0 Q u 5 L st h := tm_r_invv dd_L_place_5
theorem ws_L_place_8 : tm_s M_L_place d u0 Q u S n 8 L st h = tm_p1 st (fun x r => tm_w M_L_place d u0 Q u S n 9 L (.long x.toInt64 :: r) h) := tm_r_i2l (by decide +kernel) rfl
theorem ws_L_place_9 : tm_s M_L_place d u0 Q u S n 9 L st h = tm_pJ st (fun x r => tm_p1 r (fun i r => tm_pA r (fun a r => tm_cJ (h a) (fun k f => vp_in i k ∧ tm_w M_L_place d u0 Q u S n 10 L r (tm_up h a (tm_j k (vp_updL f i.toNatClampNeg x))))))) := tm_r_lastore (by decide +kernel) rfl
theorem ws_L_place_10 : tm_s M_L_place d u0 Q u S n 10 L st h = tm_w M_L_place d u0 Q u S n 17 L st h := tm_r_goto (off := 7) (by decide +kernel) rfl
theorem dd_L_place_13 : decode (tm_cc M_L_place) 13 = .ok (.astore 4, 2) := by decide +kernel
theorem dd_L_place_15 : decode (tm_cc M_L_place) 15 = .ok (.iconst 1, 1) := by decide +kernel
theorem dd_L_place_16 : decode (tm_cc M_L_place) 16 = .ok (.ireturn, 1) := by decide +kernel
theorem ws_L_place_17 : tm_s M_L_place d u0 Q u S n 17 L st h = tm_w M_L_place d u0 Q u S n 18 L (.int 0 :: st) h := tm_r_iconst (k := 0) (by decide +kernel) rfl (by decide)
theorem ws_L_place_18 : tm_s M_L_place d u0 Q u S n 18 L st h = tm_p1 st (fun x r => r = [] ∧ Q (.inl (some (.int x))) h) := tm_r_iret (by decide +kernel) rfl
theorem ws_L_automorphisms_0 : tm_s M_L_automorphisms d u0 Q u S n 0 L st h = tm_gA L 2 (fun x => tm_w M_L_automorphisms d u0 Q u S n 1 L (.ref x :: st) h) := tm_r_aload_n (i := 2) (by decide +kernel) rfl rfl
theorem ws_L_automorphisms_1 : tm_s M_L_automorphisms d u0 Q u S n 1 L st h = tm_w M_L_automorphisms d u0 Q u S n 2 L (.int 0 :: st) h := tm_r_iconst (k := 0) (by decide +kernel) rfl (by decide)
theorem ws_L_automorphisms_2 : tm_s M_L_automorphisms d u0 Q u S n 2 L st h = tm_gA L 0 (fun x => tm_w M_L_automorphisms d u0 Q u S n 3 L (.ref x :: st) h) := tm_r_aload_n (i := 0) (by decide +kernel) rfl rfl
theorem ws_L_automorphisms_3 : tm_s M_L_automorphisms d u0 Q u S n 3 L st h = tm_gI L 1 (fun x => tm_w M_L_automorphisms d u0 Q u S n 4 L (.int x :: st) h) := tm_r_iload_n (i := 1) (by decide +kernel) rfl rfl
theorem dd_L_automorphisms_4 : decode (tm_cc M_L_automorphisms) 4 = .ok (.invokevirtual 54, 3) := by decide +kernel
theorem ws_L_automorphisms_4 : tm_s M_L_automorphisms d u0 Q u S n 4 L st h = tm_T M_L_automorphisms d u0 Q u 4 L st h := tm_r_invv dd_L_automorphisms_4
theorem ws_L_automorphisms_7 : tm_s M_L_automorphisms d u0 Q u S n 7 L st h = tm_p1 st (fun x r => tm_w M_L_automorphisms d u0 Q u S n 8 L (.long x.toInt64 :: r) h) := tm_r_i2l (by decide +kernel) rfl
theorem ws_L_automorphisms_8 : tm_s M_L_automorphisms d u0 Q u S n 8 L st h = tm_pJ st (fun x r => tm_p1 r (fun i r => tm_pA r (fun a r => tm_cJ (h a) (fun k f => vp_in i k ∧ tm_w M_L_automorphisms d u0 Q u S n 9 L r (tm_up h a (tm_j k (vp_updL f i.toNatClampNeg x))))))) := tm_r_lastore (by decide +kernel) rfl
theorem ws_L_automorphisms_9 : tm_s M_L_automorphisms d u0 Q u S n 9 L st h = tm_w M_L_automorphisms d u0 Q u S n 15 L st h := tm_r_goto (off := 6) (by decide +kernel) rfl
theorem dd_L_automorphisms_12 : decode (tm_cc M_L_automorphisms) 12 = .ok (.astore_n 3, 1) := by decide +kernel
theorem dd_L_automorphisms_13 : decode (tm_cc M_L_automorphisms) 13 = .ok (.iconst 1, 1) := by decide +kernel
theorem dd_L_automorphisms_14 : decode (tm_cc M_L_automorphisms) 14 = .ok (.ireturn, 1) := by decide +kernel
theorem ws_L_automorphisms_15 : tm_s M_L_automorphisms d u0 Q u S n 15 L st h = tm_w M_L_automorphisms d u0 Q u S n 16 L (.int 0 :: st) h := tm_r_iconst (k := 0) (by decide +kernel) rfl (by decide)
theorem ws_L_automorphisms_16 : tm_s M_L_automorphisms d u0 Q u S n 16 L st h = tm_p1 st (fun x r => r = [] ∧ Q (.inl (some (.int x))) h) := tm_r_iret (by decide +kernel) rfl
theorem ws_L_fixing_0 : tm_s M_L_fixing d u0 Q u S n 0 L st h = tm_gA L 3 (fun x => tm_w M_L_fixing d u0 Q u S n 1 L (.ref x :: st) h) := tm_r_aload_n (i := 3) (by decide +kernel) rfl rfl
theorem ws_L_fixing_1 : tm_s M_L_fixing d u0 Q u S n 1 L st h = tm_w M_L_fixing d u0 Q u S n 2 L (.int 0 :: st) h := tm_r_iconst (k := 0) (by decide +kernel) rfl (by decide)
theorem ws_L_fixing_2 : tm_s M_L_fixing d u0 Q u S n 2 L st h = tm_gA L 0 (fun x => tm_w M_L_fixing d u0 Q u S n 3 L (.ref x :: st) h) := tm_r_aload_n (i := 0) (by decide +kernel) rfl rfl
theorem ws_L_fixing_3 : tm_s M_L_fixing d u0 Q u S n 3 L st h = tm_gI L 1 (fun x => tm_w M_L_fixing d u0 Q u S n 4 L (.int x :: st) h) := tm_r_iload_n (i := 1) (by decide +kernel) rfl rfl
theorem ws_L_fixing_4 : tm_s M_L_fixing d u0 Q u S n 4 L st h = tm_gI L 2 (fun x => tm_w M_L_fixing d u0 Q u S n 5 L (.int x :: st) h) := tm_r_iload_n (i := 2) (by decide +kernel) rfl rfl
theorem dd_L_fixing_5 : decode (tm_cc M_L_fixing) 5 = .ok (.invokevirtual 57, 3) := by decide +kernel
theorem ws_L_fixing_5 : tm_s M_L_fixing d u0 Q u S n 5 L st h = tm_T M_L_fixing d u0 Q u 5 L st h := tm_r_invv dd_L_fixing_5
theorem ws_L_fixing_8 : tm_s M_L_fixing d u0 Q u S n 8 L st h = tm_p1 st (fun x r => tm_w M_L_fixing d u0 Q u S n 9 L (.long x.toInt64 :: r) h) := tm_r_i2l (by decide +kernel) rfl
theorem ws_L_fixing_9 : tm_s M_L_fixing d u0 Q u S n 9 L st h = tm_pJ st (fun x r => tm_p1 r (fun i r => tm_pA r (fun a r => tm_cJ (h a) (fun k f => vp_in i k ∧ tm_w M_L_fixing d u0 Q u S n 10 L r (tm_up h a (tm_j k (vp_updL f i.toNatClampNeg x))))))) := tm_r_lastore (by decide +kernel) rfl
theorem ws_L_fixing_10 : tm_s M_L_fixing d u0 Q u S n 10 L st h = tm_w M_L_fixing d u0 Q u S n 17 L st h := tm_r_goto (off := 7) (by decide +kernel) rfl
theorem dd_L_fixing_13 : decode (tm_cc M_L_fixing) 13 = .ok (.astore 4, 2) := by decide +kernel
theorem dd_L_fixing_15 : decode (tm_cc M_L_fixing) 15 = .ok (.iconst 1, 1) := by decide +kernel
theorem dd_L_fixing_16 : decode (tm_cc M_L_fixing) 16 = .ok (.ireturn, 1) := by decide +kernel
theorem ws_L_fixing_17 : tm_s M_L_fixing d u0 Q u S n 17 L st h = tm_w M_L_fixing d u0 Q u S n 18 L (.int 0 :: st) h := tm_r_iconst (k := 0) (by decide +kernel) rfl (by decide)
theorem ws_L_fixing_18 : tm_s M_L_fixing d u0 Q u S n 18 L st h = tm_p1 st (fun x r => r = [] ∧ Q (.inl (some (.int x))) h) := tm_r_iret (by decide +kernel) rfl
theorem ws_L_orbit_0 : tm_s M_L_orbit d u0 Q u S n 0 L st h = tm_gA L 3 (fun x => tm_w M_L_orbit d u0 Q u S n 1 L (.ref x :: st) h) := tm_r_aload_n (i := 3) (by decide +kernel) rfl rfl
theorem ws_L_orbit_1 : tm_s M_L_orbit d u0 Q u S n 1 L st h = tm_w M_L_orbit d u0 Q u S n 2 L (.int 0 :: st) h := tm_r_iconst (k := 0) (by decide +kernel) rfl (by decide)
theorem ws_L_orbit_2 : tm_s M_L_orbit d u0 Q u S n 2 L st h = tm_gA L 0 (fun x => tm_w M_L_orbit d u0 Q u S n 3 L (.ref x :: st) h) := tm_r_aload_n (i := 0) (by decide +kernel) rfl rfl
theorem ws_L_orbit_3 : tm_s M_L_orbit d u0 Q u S n 3 L st h = tm_gI L 1 (fun x => tm_w M_L_orbit d u0 Q u S n 4 L (.int x :: st) h) := tm_r_iload_n (i := 1) (by decide +kernel) rfl rfl
theorem ws_L_orbit_4 : tm_s M_L_orbit d u0 Q u S n 4 L st h = tm_gI L 2 (fun x => tm_w M_L_orbit d u0 Q u S n 5 L (.int x :: st) h) := tm_r_iload_n (i := 2) (by decide +kernel) rfl rfl
theorem dd_L_orbit_5 : decode (tm_cc M_L_orbit) 5 = .ok (.invokevirtual 60, 3) := by decide +kernel
theorem ws_L_orbit_5 : tm_s M_L_orbit d u0 Q u S n 5 L st h = tm_T M_L_orbit d u0 Q u 5 L st h := tm_r_invv dd_L_orbit_5
theorem ws_L_orbit_8 : tm_s M_L_orbit d u0 Q u S n 8 L st h = tm_p1 st (fun x r => tm_w M_L_orbit d u0 Q u S n 9 L (.long x.toInt64 :: r) h) := tm_r_i2l (by decide +kernel) rfl
theorem ws_L_orbit_9 : tm_s M_L_orbit d u0 Q u S n 9 L st h = tm_pJ st (fun x r => tm_p1 r (fun i r => tm_pA r (fun a r => tm_cJ (h a) (fun k f => vp_in i k ∧ tm_w M_L_orbit d u0 Q u S n 10 L r (tm_up h a (tm_j k (vp_updL f i.toNatClampNeg x))))))) := tm_r_lastore (by decide +kernel) rfl
theorem ws_L_orbit_10 : tm_s M_L_orbit d u0 Q u S n 10 L st h = tm_w M_L_orbit d u0 Q u S n 17 L st h := tm_r_goto (off := 7) (by decide +kernel) rfl
theorem dd_L_orbit_13 : decode (tm_cc M_L_orbit) 13 = .ok (.astore 4, 2) := by decide +kernel
theorem dd_L_orbit_15 : decode (tm_cc M_L_orbit) 15 = .ok (.iconst 1, 1) := by decide +kernel
theorem dd_L_orbit_16 : decode (tm_cc M_L_orbit) 16 = .ok (.ireturn, 1) := by decide +kernel
theorem ws_L_orbit_17 : tm_s M_L_orbit d u0 Q u S n 17 L st h = tm_w M_L_orbit d u0 Q u S n 18 L (.int 0 :: st) h := tm_r_iconst (k := 0) (by decide +kernel) rfl (by decide)
theorem ws_L_orbit_18 : tm_s M_L_orbit d u0 Q u S n 18 L st h = tm_p1 st (fun x r => r = [] ∧ Q (.inl (some (.int x))) h) := tm_r_iret (by decide +kernel) rfl
theorem ws_L_orbits_0 : tm_s M_L_orbits d u0 Q u S n 0 L st h = tm_gA L 2 (fun x => tm_w M_L_orbits d u0 Q u S n 1 L (.ref x :: st) h) := tm_r_aload_n (i := 2) (by decide +kernel) rfl rfl
theorem ws_L_orbits_1 : tm_s M_L_orbits d u0 Q u S n 1 L st h = tm_w M_L_orbits d u0 Q u S n 2 L (.int 0 :: st) h := tm_r_iconst (k := 0) (by decide +kernel) rfl (by decide)
theorem ws_L_orbits_2 : tm_s M_L_orbits d u0 Q u S n 2 L st h = tm_gA L 0 (fun x => tm_w M_L_orbits d u0 Q u S n 3 L (.ref x :: st) h) := tm_r_aload_n (i := 0) (by decide +kernel) rfl rfl
theorem ws_L_orbits_3 : tm_s M_L_orbits d u0 Q u S n 3 L st h = tm_gI L 1 (fun x => tm_w M_L_orbits d u0 Q u S n 4 L (.int x :: st) h) := tm_r_iload_n (i := 1) (by decide +kernel) rfl rfl
theorem dd_L_orbits_4 : decode (tm_cc M_L_orbits) 4 = .ok (.invokevirtual 63, 3) := by decide +kernel
theorem ws_L_orbits_4 : tm_s M_L_orbits d u0 Q u S n 4 L st h = tm_T M_L_orbits d u0 Q u 4 L st h := tm_r_invv dd_L_orbits_4
theorem ws_L_orbits_7 : tm_s M_L_orbits d u0 Q u S n 7 L st h = tm_p1 st (fun x r => tm_w M_L_orbits d u0 Q u S n 8 L (.long x.toInt64 :: r) h) := tm_r_i2l (by decide +kernel) rfl
theorem ws_L_orbits_8 : tm_s M_L_orbits d u0 Q u S n 8 L st h = tm_pJ st (fun x r => tm_p1 r (fun i r => tm_pA r (fun a r => tm_cJ (h a) (fun k f => vp_in i k ∧ tm_w M_L_orbits d u0 Q u S n 9 L r (tm_up h a (tm_j k (vp_updL f i.toNatClampNeg x))))))) := tm_r_lastore (by decide +kernel) rfl
theorem ws_L_orbits_9 : tm_s M_L_orbits d u0 Q u S n 9 L st h = tm_w M_L_orbits d u0 Q u S n 15 L st h := tm_r_goto (off := 6) (by decide +kernel) rfl
theorem dd_L_orbits_12 : decode (tm_cc M_L_orbits) 12 = .ok (.astore_n 3, 1) := by decide +kernel
theorem dd_L_orbits_13 : decode (tm_cc M_L_orbits) 13 = .ok (.iconst 1, 1) := by decide +kernel
theorem dd_L_orbits_14 : decode (tm_cc M_L_orbits) 14 = .ok (.ireturn, 1) := by decide +kernel
theorem ws_L_orbits_15 : tm_s M_L_orbits d u0 Q u S n 15 L st h = tm_w M_L_orbits d u0 Q u S n 16 L (.int 0 :: st) h := tm_r_iconst (k := 0) (by decide +kernel) rfl (by decide)
theorem ws_L_orbits_16 : tm_s M_L_orbits d u0 Q u S n 16 L st h = tm_p1 st (fun x r => r = [] ∧ Q (.inl (some (.int x))) h) := tm_r_iret (by decide +kernel) rfl
theorem ws_L_cell_0 : tm_s M_L_cell d u0 Q u S n 0 L st h = tm_gA L 3 (fun x => tm_w M_L_cell d u0 Q u S n 1 L (.ref x :: st) h) := tm_r_aload_n (i := 3) (by decide +kernel) rfl rfl
theorem ws_L_cell_1 : tm_s M_L_cell d u0 Q u S n 1 L st h = tm_w M_L_cell d u0 Q u S n 2 L (.int 0 :: st) h := tm_r_iconst (k := 0) (by decide +kernel) rfl (by decide)
theorem ws_L_cell_2 : tm_s M_L_cell d u0 Q u S n 2 L st h = tm_gA L 0 (fun x => tm_w M_L_cell d u0 Q u S n 3 L (.ref x :: st) h) := tm_r_aload_n (i := 0) (by decide +kernel) rfl rfl
theorem ws_L_cell_3 : tm_s M_L_cell d u0 Q u S n 3 L st h = tm_gI L 1 (fun x => tm_w M_L_cell d u0 Q u S n 4 L (.int x :: st) h) := tm_r_iload_n (i := 1) (by decide +kernel) rfl rfl
theorem ws_L_cell_4 : tm_s M_L_cell d u0 Q u S n 4 L st h = tm_gI L 2 (fun x => tm_w M_L_cell d u0 Q u S n 5 L (.int x :: st) h) := tm_r_iload_n (i := 2) (by decide +kernel) rfl rfl
theorem dd_L_cell_5 : decode (tm_cc M_L_cell) 5 = .ok (.invokevirtual 66, 3) := by decide +kernel
theorem ws_L_cell_5 : tm_s M_L_cell d u0 Q u S n 5 L st h = tm_T M_L_cell d u0 Q u 5 L st h := tm_r_invv dd_L_cell_5
theorem ws_L_cell_8 : tm_s M_L_cell d u0 Q u S n 8 L st h = tm_p1 st (fun x r => tm_w M_L_cell d u0 Q u S n 9 L (.long x.toInt64 :: r) h) := tm_r_i2l (by decide +kernel) rfl
theorem ws_L_cell_9 : tm_s M_L_cell d u0 Q u S n 9 L st h = tm_pJ st (fun x r => tm_p1 r (fun i r => tm_pA r (fun a r => tm_cJ (h a) (fun k f => vp_in i k ∧ tm_w M_L_cell d u0 Q u S n 10 L r (tm_up h a (tm_j k (vp_updL f i.toNatClampNeg x))))))) := tm_r_lastore (by decide +kernel) rfl
theorem ws_L_cell_10 : tm_s M_L_cell d u0 Q u S n 10 L st h = tm_w M_L_cell d u0 Q u S n 17 L st h := tm_r_goto (off := 7) (by decide +kernel) rfl
theorem dd_L_cell_13 : decode (tm_cc M_L_cell) 13 = .ok (.astore 4, 2) := by decide +kernel
theorem dd_L_cell_15 : decode (tm_cc M_L_cell) 15 = .ok (.iconst 1, 1) := by decide +kernel
theorem dd_L_cell_16 : decode (tm_cc M_L_cell) 16 = .ok (.ireturn, 1) := by decide +kernel
theorem ws_L_cell_17 : tm_s M_L_cell d u0 Q u S n 17 L st h = tm_w M_L_cell d u0 Q u S n 18 L (.int 0 :: st) h := tm_r_iconst (k := 0) (by decide +kernel) rfl (by decide)
theorem ws_L_cell_18 : tm_s M_L_cell d u0 Q u S n 18 L st h = tm_p1 st (fun x r => r = [] ∧ Q (.inl (some (.int x))) h) := tm_r_iret (by decide +kernel) rfl
theorem ws_L_cells_0 : tm_s M_L_cells d u0 Q u S n 0 L st h = tm_gA L 2 (fun x => tm_w M_L_cells d u0 Q u S n 1 L (.ref x :: st) h) := tm_r_aload_n (i := 2) (by decide +kernel) rfl rfl
theorem ws_L_cells_1 : tm_s M_L_cells d u0 Q u S n 1 L st h = tm_w M_L_cells d u0 Q u S n 2 L (.int 0 :: st) h := tm_r_iconst (k := 0) (by decide +kernel) rfl (by decide)
theorem ws_L_cells_2 : tm_s M_L_cells d u0 Q u S n 2 L st h = tm_gA L 0 (fun x => tm_w M_L_cells d u0 Q u S n 3 L (.ref x :: st) h) := tm_r_aload_n (i := 0) (by decide +kernel) rfl rfl
theorem ws_L_cells_3 : tm_s M_L_cells d u0 Q u S n 3 L st h = tm_gI L 1 (fun x => tm_w M_L_cells d u0 Q u S n 4 L (.int x :: st) h) := tm_r_iload_n (i := 1) (by decide +kernel) rfl rfl
theorem dd_L_cells_4 : decode (tm_cc M_L_cells) 4 = .ok (.invokevirtual 69, 3) := by decide +kernel
theorem ws_L_cells_4 : tm_s M_L_cells d u0 Q u S n 4 L st h = tm_T M_L_cells d u0 Q u 4 L st h := tm_r_invv dd_L_cells_4
theorem ws_L_cells_7 : tm_s M_L_cells d u0 Q u S n 7 L st h = tm_p1 st (fun x r => tm_w M_L_cells d u0 Q u S n 8 L (.long x.toInt64 :: r) h) := tm_r_i2l (by decide +kernel) rfl
theorem ws_L_cells_8 : tm_s M_L_cells d u0 Q u S n 8 L st h = tm_pJ st (fun x r => tm_p1 r (fun i r => tm_pA r (fun a r => tm_cJ (h a) (fun k f => vp_in i k ∧ tm_w M_L_cells d u0 Q u S n 9 L r (tm_up h a (tm_j k (vp_updL f i.toNatClampNeg x))))))) := tm_r_lastore (by decide +kernel) rfl
theorem ws_L_cells_9 : tm_s M_L_cells d u0 Q u S n 9 L st h = tm_w M_L_cells d u0 Q u S n 15 L st h := tm_r_goto (off := 6) (by decide +kernel) rfl
theorem dd_L_cells_12 : decode (tm_cc M_L_cells) 12 = .ok (.astore_n 3, 1) := by decide +kernel
theorem dd_L_cells_13 : decode (tm_cc M_L_cells) 13 = .ok (.iconst 1, 1) := by decide +kernel
theorem dd_L_cells_14 : decode (tm_cc M_L_cells) 14 = .ok (.ireturn, 1) := by decide +kernel
theorem ws_L_cells_15 : tm_s M_L_cells d u0 Q u S n 15 L st h = tm_w M_L_cells d u0 Q u S n 16 L (.int 0 :: st) h := tm_r_iconst (k := 0) (by decide +kernel) rfl (by decide)
theorem ws_L_cells_16 : tm_s M_L_cells d u0 Q u S n 16 L st h = tm_p1 st (fun x r => r = [] ∧ Q (.inl (some (.int x))) h) := tm_r_iret (by decide +kernel) rfl
theorem ws_L_same_0 : tm_s M_L_same d u0 Q u S n 0 L st h = tm_gA L 3 (fun x => tm_w M_L_same d u0 Q u S n 1 L (.ref x :: st) h) := tm_r_aload_n (i := 3) (by decide +kernel) rfl rfl
theorem ws_L_same_1 : tm_s M_L_same d u0 Q u S n 1 L st h = tm_w M_L_same d u0 Q u S n 2 L (.int 0 :: st) h := tm_r_iconst (k := 0) (by decide +kernel) rfl (by decide)
theorem ws_L_same_2 : tm_s M_L_same d u0 Q u S n 2 L st h = tm_gA L 0 (fun x => tm_w M_L_same d u0 Q u S n 3 L (.ref x :: st) h) := tm_r_aload_n (i := 0) (by decide +kernel) rfl rfl
theorem ws_L_same_3 : tm_s M_L_same d u0 Q u S n 3 L st h = tm_gI L 1 (fun x => tm_w M_L_same d u0 Q u S n 4 L (.int x :: st) h) := tm_r_iload_n (i := 1) (by decide +kernel) rfl rfl
theorem ws_L_same_4 : tm_s M_L_same d u0 Q u S n 4 L st h = tm_gI L 2 (fun x => tm_w M_L_same d u0 Q u S n 5 L (.int x :: st) h) := tm_r_iload_n (i := 2) (by decide +kernel) rfl rfl
theorem dd_L_same_5 : decode (tm_cc M_L_same) 5 = .ok (.invokevirtual 72, 3) := by decide +kernel
theorem ws_L_same_5 : tm_s M_L_same d u0 Q u S n 5 L st h = tm_T M_L_same d u0 Q u 5 L st h := tm_r_invv dd_L_same_5
theorem ws_L_same_8 : tm_s M_L_same d u0 Q u S n 8 L st h = tm_p1 st (fun x r => (x = 0 → tm_w M_L_same d u0 Q u S n 15 L r h) ∧ (¬ x = 0 → tm_w M_L_same d u0 Q u S n 11 L r h)) := tm_r_ifeq (off := 7) (by decide +kernel) rfl rfl
theorem ws_L_same_11 : tm_s M_L_same d u0 Q u S n 11 L st h = tm_w M_L_same d u0 Q u S n 12 L (.long 1 :: st) h := tm_r_lconst (k := 1) (by decide +kernel) rfl (by decide)
theorem ws_L_same_12 : tm_s M_L_same d u0 Q u S n 12 L st h = tm_w M_L_same d u0 Q u S n 16 L st h := tm_r_goto (off := 4) (by decide +kernel) rfl
theorem ws_L_same_15 : tm_s M_L_same d u0 Q u S n 15 L st h = tm_w M_L_same d u0 Q u S n 16 L (.long 0 :: st) h := tm_r_lconst (k := 0) (by decide +kernel) rfl (by decide)
theorem ws_L_same_16 : tm_s M_L_same d u0 Q u S n 16 L st h = tm_pJ st (fun x r => tm_p1 r (fun i r => tm_pA r (fun a r => tm_cJ (h a) (fun k f => vp_in i k ∧ tm_w M_L_same d u0 Q u S n 17 L r (tm_up h a (tm_j k (vp_updL f i.toNatClampNeg x))))))) := tm_r_lastore (by decide +kernel) rfl
theorem ws_L_same_17 : tm_s M_L_same d u0 Q u S n 17 L st h = tm_w M_L_same d u0 Q u S n 24 L st h := tm_r_goto (off := 7) (by decide +kernel) rfl
theorem dd_L_same_20 : decode (tm_cc M_L_same) 20 = .ok (.astore 4, 2) := by decide +kernel
theorem dd_L_same_22 : decode (tm_cc M_L_same) 22 = .ok (.iconst 1, 1) := by decide +kernel
theorem dd_L_same_23 : decode (tm_cc M_L_same) 23 = .ok (.ireturn, 1) := by decide +kernel
theorem ws_L_same_24 : tm_s M_L_same d u0 Q u S n 24 L st h = tm_w M_L_same d u0 Q u S n 25 L (.int 0 :: st) h := tm_r_iconst (k := 0) (by decide +kernel) rfl (by decide)
theorem ws_L_same_25 : tm_s M_L_same d u0 Q u S n 25 L st h = tm_p1 st (fun x r => r = [] ∧ Q (.inl (some (.int x))) h) := tm_r_iret (by decide +kernel) rfl
theorem ws_L_match_0 : tm_s M_L_match d u0 Q u S n 0 L st h = tm_gA L 4 (fun x => tm_w M_L_match d u0 Q u S n 2 L (.ref x :: st) h) := tm_r_aload (j := 4) (by decide +kernel) rfl
theorem ws_L_match_2 : tm_s M_L_match d u0 Q u S n 2 L st h = tm_w M_L_match d u0 Q u S n 3 L (.int 0 :: st) h := tm_r_iconst (k := 0) (by decide +kernel) rfl (by decide)
theorem ws_L_match_3 : tm_s M_L_match d u0 Q u S n 3 L st h = tm_gA L 0 (fun x => tm_w M_L_match d u0 Q u S n 4 L (.ref x :: st) h) := tm_r_aload_n (i := 0) (by decide +kernel) rfl rfl
theorem ws_L_match_4 : tm_s M_L_match d u0 Q u S n 4 L st h = tm_gI L 1 (fun x => tm_w M_L_match d u0 Q u S n 5 L (.int x :: st) h) := tm_r_iload_n (i := 1) (by decide +kernel) rfl rfl
theorem ws_L_match_5 : tm_s M_L_match d u0 Q u S n 5 L st h = tm_gI L 2 (fun x => tm_w M_L_match d u0 Q u S n 6 L (.int x :: st) h) := tm_r_iload_n (i := 2) (by decide +kernel) rfl rfl
theorem ws_L_match_6 : tm_s M_L_match d u0 Q u S n 6 L st h = tm_gI L 3 (fun x => tm_w M_L_match d u0 Q u S n 7 L (.int x :: st) h) := tm_r_iload_n (i := 3) (by decide +kernel) rfl rfl
theorem dd_L_match_7 : decode (tm_cc M_L_match) 7 = .ok (.invokevirtual 76, 3) := by decide +kernel
theorem ws_L_match_7 : tm_s M_L_match d u0 Q u S n 7 L st h = tm_T M_L_match d u0 Q u 7 L st h := tm_r_invv dd_L_match_7
theorem ws_L_match_10 : tm_s M_L_match d u0 Q u S n 10 L st h = tm_p1 st (fun x r => tm_w M_L_match d u0 Q u S n 11 L (.long x.toInt64 :: r) h) := tm_r_i2l (by decide +kernel) rfl
theorem ws_L_match_11 : tm_s M_L_match d u0 Q u S n 11 L st h = tm_pJ st (fun x r => tm_p1 r (fun i r => tm_pA r (fun a r => tm_cJ (h a) (fun k f => vp_in i k ∧ tm_w M_L_match d u0 Q u S n 12 L r (tm_up h a (tm_j k (vp_updL f i.toNatClampNeg x))))))) := tm_r_lastore (by decide +kernel) rfl
theorem ws_L_match_12 : tm_s M_L_match d u0 Q u S n 12 L st h = tm_w M_L_match d u0 Q u S n 19 L st h := tm_r_goto (off := 7) (by decide +kernel) rfl
theorem dd_L_match_15 : decode (tm_cc M_L_match) 15 = .ok (.astore 5, 2) := by decide +kernel
theorem dd_L_match_17 : decode (tm_cc M_L_match) 17 = .ok (.iconst 1, 1) := by decide +kernel
theorem dd_L_match_18 : decode (tm_cc M_L_match) 18 = .ok (.ireturn, 1) := by decide +kernel
theorem ws_L_match_19 : tm_s M_L_match d u0 Q u S n 19 L st h = tm_w M_L_match d u0 Q u S n 20 L (.int 0 :: st) h := tm_r_iconst (k := 0) (by decide +kernel) rfl (by decide)
theorem ws_L_match_20 : tm_s M_L_match d u0 Q u S n 20 L st h = tm_p1 st (fun x r => r = [] ∧ Q (.inl (some (.int x))) h) := tm_r_iret (by decide +kernel) rfl
theorem ws_L_moves_0 : tm_s M_L_moves d u0 Q u S n 0 L st h = tm_gA L 5 (fun x => tm_w M_L_moves d u0 Q u S n 2 L (.ref x :: st) h) := tm_r_aload (j := 5) (by decide +kernel) rfl
theorem ws_L_moves_2 : tm_s M_L_moves d u0 Q u S n 2 L st h = tm_w M_L_moves d u0 Q u S n 3 L (.int 0 :: st) h := tm_r_iconst (k := 0) (by decide +kernel) rfl (by decide)
theorem ws_L_moves_3 : tm_s M_L_moves d u0 Q u S n 3 L st h = tm_gA L 0 (fun x => tm_w M_L_moves d u0 Q u S n 4 L (.ref x :: st) h) := tm_r_aload_n (i := 0) (by decide +kernel) rfl rfl
theorem ws_L_moves_4 : tm_s M_L_moves d u0 Q u S n 4 L st h = tm_gI L 1 (fun x => tm_w M_L_moves d u0 Q u S n 5 L (.int x :: st) h) := tm_r_iload_n (i := 1) (by decide +kernel) rfl rfl
theorem ws_L_moves_5 : tm_s M_L_moves d u0 Q u S n 5 L st h = tm_gI L 2 (fun x => tm_w M_L_moves d u0 Q u S n 6 L (.int x :: st) h) := tm_r_iload_n (i := 2) (by decide +kernel) rfl rfl
theorem ws_L_moves_6 : tm_s M_L_moves d u0 Q u S n 6 L st h = tm_gI L 3 (fun x => tm_w M_L_moves d u0 Q u S n 7 L (.int x :: st) h) := tm_r_iload_n (i := 3) (by decide +kernel) rfl rfl
theorem ws_L_moves_7 : tm_s M_L_moves d u0 Q u S n 7 L st h = tm_gI L 4 (fun x => tm_w M_L_moves d u0 Q u S n 9 L (.int x :: st) h) := tm_r_iload (j := 4) (by decide +kernel) rfl
theorem dd_L_moves_9 : decode (tm_cc M_L_moves) 9 = .ok (.invokevirtual 79, 3) := by decide +kernel
theorem ws_L_moves_9 : tm_s M_L_moves d u0 Q u S n 9 L st h = tm_T M_L_moves d u0 Q u 9 L st h := tm_r_invv dd_L_moves_9
theorem ws_L_moves_12 : tm_s M_L_moves d u0 Q u S n 12 L st h = tm_p1 st (fun x r => (x = 0 → tm_w M_L_moves d u0 Q u S n 19 L r h) ∧ (¬ x = 0 → tm_w M_L_moves d u0 Q u S n 15 L r h)) := tm_r_ifeq (off := 7) (by decide +kernel) rfl rfl
theorem ws_L_moves_15 : tm_s M_L_moves d u0 Q u S n 15 L st h = tm_w M_L_moves d u0 Q u S n 16 L (.long 1 :: st) h := tm_r_lconst (k := 1) (by decide +kernel) rfl (by decide)
theorem ws_L_moves_16 : tm_s M_L_moves d u0 Q u S n 16 L st h = tm_w M_L_moves d u0 Q u S n 20 L st h := tm_r_goto (off := 4) (by decide +kernel) rfl
theorem ws_L_moves_19 : tm_s M_L_moves d u0 Q u S n 19 L st h = tm_w M_L_moves d u0 Q u S n 20 L (.long 0 :: st) h := tm_r_lconst (k := 0) (by decide +kernel) rfl (by decide)
theorem ws_L_moves_20 : tm_s M_L_moves d u0 Q u S n 20 L st h = tm_pJ st (fun x r => tm_p1 r (fun i r => tm_pA r (fun a r => tm_cJ (h a) (fun k f => vp_in i k ∧ tm_w M_L_moves d u0 Q u S n 21 L r (tm_up h a (tm_j k (vp_updL f i.toNatClampNeg x))))))) := tm_r_lastore (by decide +kernel) rfl
theorem ws_L_moves_21 : tm_s M_L_moves d u0 Q u S n 21 L st h = tm_w M_L_moves d u0 Q u S n 28 L st h := tm_r_goto (off := 7) (by decide +kernel) rfl
theorem dd_L_moves_24 : decode (tm_cc M_L_moves) 24 = .ok (.astore 6, 2) := by decide +kernel
theorem dd_L_moves_26 : decode (tm_cc M_L_moves) 26 = .ok (.iconst 1, 1) := by decide +kernel
theorem dd_L_moves_27 : decode (tm_cc M_L_moves) 27 = .ok (.ireturn, 1) := by decide +kernel
theorem ws_L_moves_28 : tm_s M_L_moves d u0 Q u S n 28 L st h = tm_w M_L_moves d u0 Q u S n 29 L (.int 0 :: st) h := tm_r_iconst (k := 0) (by decide +kernel) rfl (by decide)
theorem ws_L_moves_29 : tm_s M_L_moves d u0 Q u S n 29 L st h = tm_p1 st (fun x r => r = [] ∧ Q (.inl (some (.int x))) h) := tm_r_iret (by decide +kernel) rfl
theorem dd_L_law_0 : decode (tm_cc M_L_law) 0 = .ok (.new 8, 3) := by decide +kernel
theorem ws_L_law_0 : tm_s M_L_law d u0 Q u S n 0 L st h = tm_T M_L_law d u0 Q u 0 L st h := tm_r_new dd_L_law_0
theorem dd_L_law_3 : decode (tm_cc M_L_law) 3 = .ok (.dup, 1) := by decide +kernel
theorem ws_L_law_3 : tm_s M_L_law d u0 Q u S n 3 L st h = tm_pV st (fun v r => tm_w M_L_law d u0 Q u S n 4 L (v :: v :: r) h) := tm_r_dup dd_L_law_3 rfl
theorem dd_L_law_4 : decode (tm_cc M_L_law) 4 = .ok (.invokespecial 83, 3) := by decide +kernel
theorem ws_L_law_4 : tm_s M_L_law d u0 Q u S n 4 L st h = tm_T M_L_law d u0 Q u 4 L st h := tm_r_invi dd_L_law_4
theorem dd_L_law_7 : decode (tm_cc M_L_law) 7 = .ok (.astore_n 1, 1) := by decide +kernel
theorem ws_L_law_7 : tm_s M_L_law d u0 Q u S n 7 L st h = tm_pA st (fun x r => tm_w M_L_law d u0 Q u S n 8 (L.set 1 (some (.ref x))) r h) := tm_r_astore_n (i := 1) dd_L_law_7 rfl rfl (by decide)
theorem dd_L_law_8 : decode (tm_cc M_L_law) 8 = .ok (.new 84, 3) := by decide +kernel
theorem ws_L_law_8 : tm_s M_L_law d u0 Q u S n 8 L st h = tm_T M_L_law d u0 Q u 8 L st h := tm_r_new dd_L_law_8
theorem dd_L_law_11 : decode (tm_cc M_L_law) 11 = .ok (.dup, 1) := by decide +kernel
theorem ws_L_law_11 : tm_s M_L_law d u0 Q u S n 11 L st h = tm_pV st (fun v r => tm_w M_L_law d u0 Q u S n 12 L (v :: v :: r) h) := tm_r_dup dd_L_law_11 rfl
theorem dd_L_law_12 : decode (tm_cc M_L_law) 12 = .ok (.invokespecial 86, 3) := by decide +kernel
theorem ws_L_law_12 : tm_s M_L_law d u0 Q u S n 12 L st h = tm_T M_L_law d u0 Q u 12 L st h := tm_r_invi dd_L_law_12
theorem dd_L_law_15 : decode (tm_cc M_L_law) 15 = .ok (.astore_n 2, 1) := by decide +kernel
theorem ws_L_law_15 : tm_s M_L_law d u0 Q u S n 15 L st h = tm_pA st (fun x r => tm_w M_L_law d u0 Q u S n 16 (L.set 2 (some (.ref x))) r h) := tm_r_astore_n (i := 2) dd_L_law_15 rfl rfl (by decide)
theorem dd_L_law_16 : decode (tm_cc M_L_law) 16 = .ok (.iconst 1, 1) := by decide +kernel
theorem ws_L_law_16 : tm_s M_L_law d u0 Q u S n 16 L st h = tm_w M_L_law d u0 Q u S n 17 L (.int 1 :: st) h := tm_r_iconst (k := 1) dd_L_law_16 rfl (by decide)
theorem dd_L_law_17 : decode (tm_cc M_L_law) 17 = .ok (.newarray .long, 2) := by decide +kernel
theorem dd_L_law_19 : decode (tm_cc M_L_law) 19 = .ok (.astore_n 3, 1) := by decide +kernel
theorem ws_L_law_19 : tm_s M_L_law d u0 Q u S n 19 L st h = tm_pA st (fun x r => tm_w M_L_law d u0 Q u S n 20 (L.set 3 (some (.ref x))) r h) := tm_r_astore_n (i := 3) dd_L_law_19 rfl rfl (by decide)
theorem dd_L_law_20 : decode (tm_cc M_L_law) 20 = .ok (.iconst 0, 1) := by decide +kernel
theorem ws_L_law_20 : tm_s M_L_law d u0 Q u S n 20 L st h = tm_w M_L_law d u0 Q u S n 21 L (.int 0 :: st) h := tm_r_iconst (k := 0) dd_L_law_20 rfl (by decide)
theorem dd_L_law_21 : decode (tm_cc M_L_law) 21 = .ok (.istore 4, 2) := by decide +kernel
theorem ws_L_law_21 : tm_s M_L_law d u0 Q u S n 21 L st h = tm_p1 st (fun x r => tm_w M_L_law d u0 Q u S n 23 (L.set 4 (some (.int x))) r h) := tm_r_istore (j := 4) dd_L_law_21 rfl (by decide)
theorem dd_L_law_23 : decode (tm_cc M_L_law) 23 = .ok (.iload 4, 2) := by decide +kernel
theorem ws_L_law_23 : tm_s M_L_law d u0 Q u S n 23 L st h = tm_gI L 4 (fun x => tm_w M_L_law d u0 Q u S n 25 L (.int x :: st) h) := tm_r_iload (j := 4) dd_L_law_23 rfl
theorem dd_L_law_25 : decode (tm_cc M_L_law) 25 = .ok (.aload_n 0, 1) := by decide +kernel
theorem ws_L_law_25 : tm_s M_L_law d u0 Q u S n 25 L st h = tm_gA L 0 (fun x => tm_w M_L_law d u0 Q u S n 26 L (.ref x :: st) h) := tm_r_aload_n (i := 0) dd_L_law_25 rfl rfl
theorem dd_L_law_26 : decode (tm_cc M_L_law) 26 = .ok (.arraylength, 1) := by decide +kernel
theorem ws_L_law_26 : tm_s M_L_law d u0 Q u S n 26 L st h = tm_pA st (fun a r => tm_cI (h a) (fun k _ => tm_w M_L_law d u0 Q u S n 27 L (.int (nI k) :: r) h)) := tm_r_alen dd_L_law_26 rfl
theorem dd_L_law_27 : decode (tm_cc M_L_law) 27 = .ok (.iconst 5, 1) := by decide +kernel
theorem ws_L_law_27 : tm_s M_L_law d u0 Q u S n 27 L st h = tm_w M_L_law d u0 Q u S n 28 L (.int 5 :: st) h := tm_r_iconst (k := 5) dd_L_law_27 rfl (by decide)
theorem dd_L_law_28 : decode (tm_cc M_L_law) 28 = .ok (.isub, 1) := by decide +kernel
theorem ws_L_law_28 : tm_s M_L_law d u0 Q u S n 28 L st h = tm_p1 st (fun y r => tm_p1 r (fun x r => tm_w M_L_law d u0 Q u S n 29 L (.int (x - y) :: r) h)) := tm_r_isub dd_L_law_28 rfl
theorem dd_L_law_29 : decode (tm_cc M_L_law) 29 = .ok (.if_icmp .gt 1531, 3) := by decide +kernel
theorem ws_L_law_29 : tm_s M_L_law d u0 Q u S n 29 L st h = tm_p1 st (fun y r => tm_p1 r (fun x r => (y < x → tm_w M_L_law d u0 Q u S n 1560 L r h) ∧ (¬ y < x → tm_w M_L_law d u0 Q u S n 32 L r h))) := tm_r_icgt (off := 1531) dd_L_law_29 rfl rfl
theorem dd_L_law_32 : decode (tm_cc M_L_law) 32 = .ok (.aload_n 0, 1) := by decide +kernel
theorem ws_L_law_32 : tm_s M_L_law d u0 Q u S n 32 L st h = tm_gA L 0 (fun x => tm_w M_L_law d u0 Q u S n 33 L (.ref x :: st) h) := tm_r_aload_n (i := 0) dd_L_law_32 rfl rfl
theorem dd_L_law_33 : decode (tm_cc M_L_law) 33 = .ok (.iload 4, 2) := by decide +kernel
theorem ws_L_law_33 : tm_s M_L_law d u0 Q u S n 33 L st h = tm_gI L 4 (fun x => tm_w M_L_law d u0 Q u S n 35 L (.int x :: st) h) := tm_r_iload (j := 4) dd_L_law_33 rfl
theorem dd_L_law_35 : decode (tm_cc M_L_law) 35 = .ok (.iaload, 1) := by decide +kernel
theorem ws_L_law_35 : tm_s M_L_law d u0 Q u S n 35 L st h = tm_p1 st (fun i r => tm_pA r (fun a r => tm_cI (h a) (fun k f => vp_in i k ∧ tm_w M_L_law d u0 Q u S n 36 L (.int (f i.toNatClampNeg) :: r) h))) := tm_r_iaload dd_L_law_35 rfl
theorem dd_L_law_36 : decode (tm_cc M_L_law) 36 = .ok (.bipush 31, 2) := by decide +kernel
theorem ws_L_law_36 : tm_s M_L_law d u0 Q u S n 36 L st h = tm_w M_L_law d u0 Q u S n 38 L (.int 31 :: st) h := tm_r_bipush (k := 31) dd_L_law_36 rfl (by decide)
theorem dd_L_law_38 : decode (tm_cc M_L_law) 38 = .ok (.iand, 1) := by decide +kernel
theorem ws_L_law_38 : tm_s M_L_law d u0 Q u S n 38 L st h = tm_p1 st (fun y r => tm_p1 r (fun x r => tm_w M_L_law d u0 Q u S n 39 L (.int (x &&& y) :: r) h)) := tm_r_iand dd_L_law_38 rfl
theorem dd_L_law_39 : decode (tm_cc M_L_law) 39 = .ok (.tableswitch 1515 0 20 #[97, 165, 245, 325, 405, 461, 529, 585, 641, 697, 765, 821, 889, 945, 1013, 1081, 1137, 1205, 1261, 1336, 1416], 97) := by decide +kernel
theorem ws_L_law_39 : tm_s M_L_law d u0 Q u S n 39 L st h = tm_T M_L_law d u0 Q u 39 L st h := tm_r_tsw dd_L_law_39
theorem ws_L_law_136 : tm_s M_L_law d u0 Q u S n 136 L st h = tm_gA L 1 (fun x => tm_w M_L_law d u0 Q u S n 137 L (.ref x :: st) h) := tm_r_aload_n (i := 1) (by decide +kernel) rfl rfl
theorem ws_L_law_137 : tm_s M_L_law d u0 Q u S n 137 L st h = tm_gA L 0 (fun x => tm_w M_L_law d u0 Q u S n 138 L (.ref x :: st) h) := tm_r_aload_n (i := 0) (by decide +kernel) rfl rfl
theorem ws_L_law_138 : tm_s M_L_law d u0 Q u S n 138 L st h = tm_gI L 4 (fun x => tm_w M_L_law d u0 Q u S n 140 L (.int x :: st) h) := tm_r_iload (j := 4) (by decide +kernel) rfl
theorem ws_L_law_140 : tm_s M_L_law d u0 Q u S n 140 L st h = tm_w M_L_law d u0 Q u S n 141 L (.int 1 :: st) h := tm_r_iconst (k := 1) (by decide +kernel) rfl (by decide)
theorem ws_L_law_141 : tm_s M_L_law d u0 Q u S n 141 L st h = tm_p1 st (fun y r => tm_p1 r (fun x r => tm_w M_L_law d u0 Q u S n 142 L (.int (x + y) :: r) h)) := tm_r_iadd (by decide +kernel) rfl
theorem ws_L_law_142 : tm_s M_L_law d u0 Q u S n 142 L st h = tm_p1 st (fun i r => tm_pA r (fun a r => tm_cI (h a) (fun k f => vp_in i k ∧ tm_w M_L_law d u0 Q u S n 143 L (.int (f i.toNatClampNeg) :: r) h))) := tm_r_iaload (by decide +kernel) rfl
theorem ws_L_law_143 : tm_s M_L_law d u0 Q u S n 143 L st h = tm_gA L 0 (fun x => tm_w M_L_law d u0 Q u S n 144 L (.ref x :: st) h) := tm_r_aload_n (i := 0) (by decide +kernel) rfl rfl
theorem ws_L_law_144 : tm_s M_L_law d u0 Q u S n 144 L st h = tm_gI L 4 (fun x => tm_w M_L_law d u0 Q u S n 146 L (.int x :: st) h) := tm_r_iload (j := 4) (by decide +kernel) rfl
theorem ws_L_law_146 : tm_s M_L_law d u0 Q u S n 146 L st h = tm_w M_L_law d u0 Q u S n 147 L (.int 2 :: st) h := tm_r_iconst (k := 2) (by decide +kernel) rfl (by decide)
theorem ws_L_law_147 : tm_s M_L_law d u0 Q u S n 147 L st h = tm_p1 st (fun y r => tm_p1 r (fun x r => tm_w M_L_law d u0 Q u S n 148 L (.int (x + y) :: r) h)) := tm_r_iadd (by decide +kernel) rfl
theorem ws_L_law_148 : tm_s M_L_law d u0 Q u S n 148 L st h = tm_p1 st (fun i r => tm_pA r (fun a r => tm_cI (h a) (fun k f => vp_in i k ∧ tm_w M_L_law d u0 Q u S n 149 L (.int (f i.toNatClampNeg) :: r) h))) := tm_r_iaload (by decide +kernel) rfl
theorem ws_L_law_149 : tm_s M_L_law d u0 Q u S n 149 L st h = tm_gA L 3 (fun x => tm_w M_L_law d u0 Q u S n 150 L (.ref x :: st) h) := tm_r_aload_n (i := 3) (by decide +kernel) rfl rfl
theorem dd_L_law_150 : decode (tm_cc M_L_law) 150 = .ok (.invokestatic 87, 3) := by decide +kernel
theorem ws_L_law_150 : tm_s M_L_law d u0 Q u S n 150 L st h = tm_T M_L_law d u0 Q u 150 L st h := tm_r_invs dd_L_law_150
theorem ws_L_law_153 : tm_s M_L_law d u0 Q u S n 153 L st h = tm_p1 st (fun x r => tm_w M_L_law d u0 Q u S n 155 (L.set 5 (some (.int x))) r h) := tm_r_istore (j := 5) (by decide +kernel) rfl (by decide)
theorem ws_L_law_155 : tm_s M_L_law d u0 Q u S n 155 L st h = tm_gA L 2 (fun x => tm_w M_L_law d u0 Q u S n 156 L (.ref x :: st) h) := tm_r_aload_n (i := 2) (by decide +kernel) rfl rfl
theorem ws_L_law_156 : tm_s M_L_law d u0 Q u S n 156 L st h = tm_gA L 0 (fun x => tm_w M_L_law d u0 Q u S n 157 L (.ref x :: st) h) := tm_r_aload_n (i := 0) (by decide +kernel) rfl rfl
theorem ws_L_law_157 : tm_s M_L_law d u0 Q u S n 157 L st h = tm_gI L 4 (fun x => tm_w M_L_law d u0 Q u S n 159 L (.int x :: st) h) := tm_r_iload (j := 4) (by decide +kernel) rfl
theorem ws_L_law_159 : tm_s M_L_law d u0 Q u S n 159 L st h = tm_w M_L_law d u0 Q u S n 160 L (.int 1 :: st) h := tm_r_iconst (k := 1) (by decide +kernel) rfl (by decide)
theorem ws_L_law_160 : tm_s M_L_law d u0 Q u S n 160 L st h = tm_p1 st (fun y r => tm_p1 r (fun x r => tm_w M_L_law d u0 Q u S n 161 L (.int (x + y) :: r) h)) := tm_r_iadd (by decide +kernel) rfl
theorem ws_L_law_161 : tm_s M_L_law d u0 Q u S n 161 L st h = tm_p1 st (fun i r => tm_pA r (fun a r => tm_cI (h a) (fun k f => vp_in i k ∧ tm_w M_L_law d u0 Q u S n 162 L (.int (f i.toNatClampNeg) :: r) h))) := tm_r_iaload (by decide +kernel) rfl
theorem ws_L_law_162 : tm_s M_L_law d u0 Q u S n 162 L st h = tm_gA L 0 (fun x => tm_w M_L_law d u0 Q u S n 163 L (.ref x :: st) h) := tm_r_aload_n (i := 0) (by decide +kernel) rfl rfl
theorem ws_L_law_163 : tm_s M_L_law d u0 Q u S n 163 L st h = tm_gI L 4 (fun x => tm_w M_L_law d u0 Q u S n 165 L (.int x :: st) h) := tm_r_iload (j := 4) (by decide +kernel) rfl
theorem ws_L_law_165 : tm_s M_L_law d u0 Q u S n 165 L st h = tm_w M_L_law d u0 Q u S n 166 L (.int 2 :: st) h := tm_r_iconst (k := 2) (by decide +kernel) rfl (by decide)
theorem ws_L_law_166 : tm_s M_L_law d u0 Q u S n 166 L st h = tm_p1 st (fun y r => tm_p1 r (fun x r => tm_w M_L_law d u0 Q u S n 167 L (.int (x + y) :: r) h)) := tm_r_iadd (by decide +kernel) rfl
theorem ws_L_law_167 : tm_s M_L_law d u0 Q u S n 167 L st h = tm_p1 st (fun i r => tm_pA r (fun a r => tm_cI (h a) (fun k f => vp_in i k ∧ tm_w M_L_law d u0 Q u S n 168 L (.int (f i.toNatClampNeg) :: r) h))) := tm_r_iaload (by decide +kernel) rfl
theorem dd_L_law_168 : decode (tm_cc M_L_law) 168 = .ok (.invokevirtual 92, 3) := by decide +kernel
theorem ws_L_law_168 : tm_s M_L_law d u0 Q u S n 168 L st h = tm_T M_L_law d u0 Q u 168 L st h := tm_r_invv dd_L_law_168
theorem ws_L_law_171 : tm_s M_L_law d u0 Q u S n 171 L st h = tm_p1 st (fun x r => tm_w M_L_law d u0 Q u S n 173 (L.set 6 (some (.int x))) r h) := tm_r_istore (j := 6) (by decide +kernel) rfl (by decide)
theorem ws_L_law_173 : tm_s M_L_law d u0 Q u S n 173 L st h = tm_gA L 2 (fun x => tm_w M_L_law d u0 Q u S n 174 L (.ref x :: st) h) := tm_r_aload_n (i := 2) (by decide +kernel) rfl rfl
theorem dd_L_law_174 : decode (tm_cc M_L_law) 174 = .ok (.invokevirtual 93, 3) := by decide +kernel
theorem ws_L_law_174 : tm_s M_L_law d u0 Q u S n 174 L st h = tm_T M_L_law d u0 Q u 174 L st h := tm_r_invv dd_L_law_174
theorem ws_L_law_177 : tm_s M_L_law d u0 Q u S n 177 L st h = tm_gI L 5 (fun x => tm_w M_L_law d u0 Q u S n 179 L (.int x :: st) h) := tm_r_iload (j := 5) (by decide +kernel) rfl
theorem ws_L_law_179 : tm_s M_L_law d u0 Q u S n 179 L st h = tm_p1 st (fun y r => tm_p1 r (fun x r => (x = y → tm_w M_L_law d u0 Q u S n 184 L r h) ∧ (¬ x = y → tm_w M_L_law d u0 Q u S n 182 L r h))) := tm_r_iceq (off := 5) (by decide +kernel) rfl rfl
theorem ws_L_law_182 : tm_s M_L_law d u0 Q u S n 182 L st h = tm_w M_L_law d u0 Q u S n 183 L (.int 0 :: st) h := tm_r_iconst (k := 0) (by decide +kernel) rfl (by decide)
theorem ws_L_law_183 : tm_s M_L_law d u0 Q u S n 183 L st h = tm_p1 st (fun x r => r = [] ∧ (x = 0 ∨ x = 1) ∧ Q (.inl (some (.int x))) h) := tm_r_zret (by decide +kernel) rfl
theorem ws_L_law_184 : tm_s M_L_law d u0 Q u S n 184 L st h = tm_gI L 5 (fun x => tm_w M_L_law d u0 Q u S n 186 L (.int x :: st) h) := tm_r_iload (j := 5) (by decide +kernel) rfl
theorem ws_L_law_186 : tm_s M_L_law d u0 Q u S n 186 L st h = tm_p1 st (fun x r => (¬ x = 0 → tm_w M_L_law d u0 Q u S n 201 L r h) ∧ (¬ ¬ x = 0 → tm_w M_L_law d u0 Q u S n 189 L r h)) := tm_r_ifne (off := 15) (by decide +kernel) rfl rfl
theorem ws_L_law_189 : tm_s M_L_law d u0 Q u S n 189 L st h = tm_gA L 3 (fun x => tm_w M_L_law d u0 Q u S n 190 L (.ref x :: st) h) := tm_r_aload_n (i := 3) (by decide +kernel) rfl rfl
theorem ws_L_law_190 : tm_s M_L_law d u0 Q u S n 190 L st h = tm_w M_L_law d u0 Q u S n 191 L (.int 0 :: st) h := tm_r_iconst (k := 0) (by decide +kernel) rfl (by decide)
theorem ws_L_law_191 : tm_s M_L_law d u0 Q u S n 191 L st h = tm_p1 st (fun i r => tm_pA r (fun a r => tm_cJ (h a) (fun k f => vp_in i k ∧ tm_w M_L_law d u0 Q u S n 192 L (.long (f i.toNatClampNeg) :: r) h))) := tm_r_laload (by decide +kernel) rfl
theorem ws_L_law_192 : tm_s M_L_law d u0 Q u S n 192 L st h = tm_gI L 6 (fun x => tm_w M_L_law d u0 Q u S n 194 L (.int x :: st) h) := tm_r_iload (j := 6) (by decide +kernel) rfl
theorem ws_L_law_194 : tm_s M_L_law d u0 Q u S n 194 L st h = tm_p1 st (fun x r => tm_w M_L_law d u0 Q u S n 195 L (.long x.toInt64 :: r) h) := tm_r_i2l (by decide +kernel) rfl
theorem ws_L_law_195 : tm_s M_L_law d u0 Q u S n 195 L st h = tm_pJ st (fun y r => tm_pJ r (fun x r => tm_w M_L_law d u0 Q u S n 196 L (.int (lg_cmp x y) :: r) h)) := tm_r_lcmp (by decide +kernel) rfl
theorem ws_L_law_196 : tm_s M_L_law d u0 Q u S n 196 L st h = tm_p1 st (fun x r => (x = 0 → tm_w M_L_law d u0 Q u S n 201 L r h) ∧ (¬ x = 0 → tm_w M_L_law d u0 Q u S n 199 L r h)) := tm_r_ifeq (off := 5) (by decide +kernel) rfl rfl
theorem ws_L_law_199 : tm_s M_L_law d u0 Q u S n 199 L st h = tm_w M_L_law d u0 Q u S n 200 L (.int 0 :: st) h := tm_r_iconst (k := 0) (by decide +kernel) rfl (by decide)
theorem ws_L_law_200 : tm_s M_L_law d u0 Q u S n 200 L st h = tm_p1 st (fun x r => r = [] ∧ (x = 0 ∨ x = 1) ∧ Q (.inl (some (.int x))) h) := tm_r_zret (by decide +kernel) rfl
theorem ws_L_law_201 : tm_s M_L_law d u0 Q u S n 201 L st h = tm_w M_L_law d u0 Q u S n 1554 L st h := tm_r_goto (off := 1353) (by decide +kernel) rfl
theorem ws_L_law_204 : tm_s M_L_law d u0 Q u S n 204 L st h = tm_gA L 1 (fun x => tm_w M_L_law d u0 Q u S n 205 L (.ref x :: st) h) := tm_r_aload_n (i := 1) (by decide +kernel) rfl rfl
theorem ws_L_law_205 : tm_s M_L_law d u0 Q u S n 205 L st h = tm_gA L 0 (fun x => tm_w M_L_law d u0 Q u S n 206 L (.ref x :: st) h) := tm_r_aload_n (i := 0) (by decide +kernel) rfl rfl
theorem ws_L_law_206 : tm_s M_L_law d u0 Q u S n 206 L st h = tm_gI L 4 (fun x => tm_w M_L_law d u0 Q u S n 208 L (.int x :: st) h) := tm_r_iload (j := 4) (by decide +kernel) rfl
theorem ws_L_law_208 : tm_s M_L_law d u0 Q u S n 208 L st h = tm_w M_L_law d u0 Q u S n 209 L (.int 1 :: st) h := tm_r_iconst (k := 1) (by decide +kernel) rfl (by decide)
theorem ws_L_law_209 : tm_s M_L_law d u0 Q u S n 209 L st h = tm_p1 st (fun y r => tm_p1 r (fun x r => tm_w M_L_law d u0 Q u S n 210 L (.int (x + y) :: r) h)) := tm_r_iadd (by decide +kernel) rfl
theorem ws_L_law_210 : tm_s M_L_law d u0 Q u S n 210 L st h = tm_p1 st (fun i r => tm_pA r (fun a r => tm_cI (h a) (fun k f => vp_in i k ∧ tm_w M_L_law d u0 Q u S n 211 L (.int (f i.toNatClampNeg) :: r) h))) := tm_r_iaload (by decide +kernel) rfl
theorem ws_L_law_211 : tm_s M_L_law d u0 Q u S n 211 L st h = tm_gA L 0 (fun x => tm_w M_L_law d u0 Q u S n 212 L (.ref x :: st) h) := tm_r_aload_n (i := 0) (by decide +kernel) rfl rfl
theorem ws_L_law_212 : tm_s M_L_law d u0 Q u S n 212 L st h = tm_gI L 4 (fun x => tm_w M_L_law d u0 Q u S n 214 L (.int x :: st) h) := tm_r_iload (j := 4) (by decide +kernel) rfl
theorem ws_L_law_214 : tm_s M_L_law d u0 Q u S n 214 L st h = tm_w M_L_law d u0 Q u S n 215 L (.int 2 :: st) h := tm_r_iconst (k := 2) (by decide +kernel) rfl (by decide)
theorem ws_L_law_215 : tm_s M_L_law d u0 Q u S n 215 L st h = tm_p1 st (fun y r => tm_p1 r (fun x r => tm_w M_L_law d u0 Q u S n 216 L (.int (x + y) :: r) h)) := tm_r_iadd (by decide +kernel) rfl
theorem ws_L_law_216 : tm_s M_L_law d u0 Q u S n 216 L st h = tm_p1 st (fun i r => tm_pA r (fun a r => tm_cI (h a) (fun k f => vp_in i k ∧ tm_w M_L_law d u0 Q u S n 217 L (.int (f i.toNatClampNeg) :: r) h))) := tm_r_iaload (by decide +kernel) rfl
theorem ws_L_law_217 : tm_s M_L_law d u0 Q u S n 217 L st h = tm_gA L 0 (fun x => tm_w M_L_law d u0 Q u S n 218 L (.ref x :: st) h) := tm_r_aload_n (i := 0) (by decide +kernel) rfl rfl
theorem ws_L_law_218 : tm_s M_L_law d u0 Q u S n 218 L st h = tm_gI L 4 (fun x => tm_w M_L_law d u0 Q u S n 220 L (.int x :: st) h) := tm_r_iload (j := 4) (by decide +kernel) rfl
theorem ws_L_law_220 : tm_s M_L_law d u0 Q u S n 220 L st h = tm_w M_L_law d u0 Q u S n 221 L (.int 3 :: st) h := tm_r_iconst (k := 3) (by decide +kernel) rfl (by decide)
theorem ws_L_law_221 : tm_s M_L_law d u0 Q u S n 221 L st h = tm_p1 st (fun y r => tm_p1 r (fun x r => tm_w M_L_law d u0 Q u S n 222 L (.int (x + y) :: r) h)) := tm_r_iadd (by decide +kernel) rfl
theorem ws_L_law_222 : tm_s M_L_law d u0 Q u S n 222 L st h = tm_p1 st (fun i r => tm_pA r (fun a r => tm_cI (h a) (fun k f => vp_in i k ∧ tm_w M_L_law d u0 Q u S n 223 L (.int (f i.toNatClampNeg) :: r) h))) := tm_r_iaload (by decide +kernel) rfl
theorem ws_L_law_223 : tm_s M_L_law d u0 Q u S n 223 L st h = tm_gA L 3 (fun x => tm_w M_L_law d u0 Q u S n 224 L (.ref x :: st) h) := tm_r_aload_n (i := 3) (by decide +kernel) rfl rfl
theorem dd_L_law_224 : decode (tm_cc M_L_law) 224 = .ok (.invokestatic 97, 3) := by decide +kernel
theorem ws_L_law_224 : tm_s M_L_law d u0 Q u S n 224 L st h = tm_T M_L_law d u0 Q u 224 L st h := tm_r_invs dd_L_law_224
theorem ws_L_law_227 : tm_s M_L_law d u0 Q u S n 227 L st h = tm_p1 st (fun x r => tm_w M_L_law d u0 Q u S n 229 (L.set 5 (some (.int x))) r h) := tm_r_istore (j := 5) (by decide +kernel) rfl (by decide)
theorem ws_L_law_229 : tm_s M_L_law d u0 Q u S n 229 L st h = tm_gA L 2 (fun x => tm_w M_L_law d u0 Q u S n 230 L (.ref x :: st) h) := tm_r_aload_n (i := 2) (by decide +kernel) rfl rfl
theorem ws_L_law_230 : tm_s M_L_law d u0 Q u S n 230 L st h = tm_gA L 0 (fun x => tm_w M_L_law d u0 Q u S n 231 L (.ref x :: st) h) := tm_r_aload_n (i := 0) (by decide +kernel) rfl rfl
theorem ws_L_law_231 : tm_s M_L_law d u0 Q u S n 231 L st h = tm_gI L 4 (fun x => tm_w M_L_law d u0 Q u S n 233 L (.int x :: st) h) := tm_r_iload (j := 4) (by decide +kernel) rfl
theorem ws_L_law_233 : tm_s M_L_law d u0 Q u S n 233 L st h = tm_w M_L_law d u0 Q u S n 234 L (.int 1 :: st) h := tm_r_iconst (k := 1) (by decide +kernel) rfl (by decide)
theorem ws_L_law_234 : tm_s M_L_law d u0 Q u S n 234 L st h = tm_p1 st (fun y r => tm_p1 r (fun x r => tm_w M_L_law d u0 Q u S n 235 L (.int (x + y) :: r) h)) := tm_r_iadd (by decide +kernel) rfl
theorem ws_L_law_235 : tm_s M_L_law d u0 Q u S n 235 L st h = tm_p1 st (fun i r => tm_pA r (fun a r => tm_cI (h a) (fun k f => vp_in i k ∧ tm_w M_L_law d u0 Q u S n 236 L (.int (f i.toNatClampNeg) :: r) h))) := tm_r_iaload (by decide +kernel) rfl
theorem ws_L_law_236 : tm_s M_L_law d u0 Q u S n 236 L st h = tm_gA L 0 (fun x => tm_w M_L_law d u0 Q u S n 237 L (.ref x :: st) h) := tm_r_aload_n (i := 0) (by decide +kernel) rfl rfl
theorem ws_L_law_237 : tm_s M_L_law d u0 Q u S n 237 L st h = tm_gI L 4 (fun x => tm_w M_L_law d u0 Q u S n 239 L (.int x :: st) h) := tm_r_iload (j := 4) (by decide +kernel) rfl
theorem ws_L_law_239 : tm_s M_L_law d u0 Q u S n 239 L st h = tm_w M_L_law d u0 Q u S n 240 L (.int 2 :: st) h := tm_r_iconst (k := 2) (by decide +kernel) rfl (by decide)
theorem ws_L_law_240 : tm_s M_L_law d u0 Q u S n 240 L st h = tm_p1 st (fun y r => tm_p1 r (fun x r => tm_w M_L_law d u0 Q u S n 241 L (.int (x + y) :: r) h)) := tm_r_iadd (by decide +kernel) rfl
theorem ws_L_law_241 : tm_s M_L_law d u0 Q u S n 241 L st h = tm_p1 st (fun i r => tm_pA r (fun a r => tm_cI (h a) (fun k f => vp_in i k ∧ tm_w M_L_law d u0 Q u S n 242 L (.int (f i.toNatClampNeg) :: r) h))) := tm_r_iaload (by decide +kernel) rfl
theorem ws_L_law_242 : tm_s M_L_law d u0 Q u S n 242 L st h = tm_gA L 0 (fun x => tm_w M_L_law d u0 Q u S n 243 L (.ref x :: st) h) := tm_r_aload_n (i := 0) (by decide +kernel) rfl rfl
theorem ws_L_law_243 : tm_s M_L_law d u0 Q u S n 243 L st h = tm_gI L 4 (fun x => tm_w M_L_law d u0 Q u S n 245 L (.int x :: st) h) := tm_r_iload (j := 4) (by decide +kernel) rfl
theorem ws_L_law_245 : tm_s M_L_law d u0 Q u S n 245 L st h = tm_w M_L_law d u0 Q u S n 246 L (.int 3 :: st) h := tm_r_iconst (k := 3) (by decide +kernel) rfl (by decide)
theorem ws_L_law_246 : tm_s M_L_law d u0 Q u S n 246 L st h = tm_p1 st (fun y r => tm_p1 r (fun x r => tm_w M_L_law d u0 Q u S n 247 L (.int (x + y) :: r) h)) := tm_r_iadd (by decide +kernel) rfl
theorem ws_L_law_247 : tm_s M_L_law d u0 Q u S n 247 L st h = tm_p1 st (fun i r => tm_pA r (fun a r => tm_cI (h a) (fun k f => vp_in i k ∧ tm_w M_L_law d u0 Q u S n 248 L (.int (f i.toNatClampNeg) :: r) h))) := tm_r_iaload (by decide +kernel) rfl
theorem dd_L_law_248 : decode (tm_cc M_L_law) 248 = .ok (.invokevirtual 100, 3) := by decide +kernel
theorem ws_L_law_248 : tm_s M_L_law d u0 Q u S n 248 L st h = tm_T M_L_law d u0 Q u 248 L st h := tm_r_invv dd_L_law_248
theorem ws_L_law_251 : tm_s M_L_law d u0 Q u S n 251 L st h = tm_p1 st (fun x r => tm_w M_L_law d u0 Q u S n 253 (L.set 6 (some (.int x))) r h) := tm_r_istore (j := 6) (by decide +kernel) rfl (by decide)
theorem ws_L_law_253 : tm_s M_L_law d u0 Q u S n 253 L st h = tm_gA L 2 (fun x => tm_w M_L_law d u0 Q u S n 254 L (.ref x :: st) h) := tm_r_aload_n (i := 2) (by decide +kernel) rfl rfl
theorem dd_L_law_254 : decode (tm_cc M_L_law) 254 = .ok (.invokevirtual 93, 3) := by decide +kernel
theorem ws_L_law_254 : tm_s M_L_law d u0 Q u S n 254 L st h = tm_T M_L_law d u0 Q u 254 L st h := tm_r_invv dd_L_law_254
theorem ws_L_law_257 : tm_s M_L_law d u0 Q u S n 257 L st h = tm_gI L 5 (fun x => tm_w M_L_law d u0 Q u S n 259 L (.int x :: st) h) := tm_r_iload (j := 5) (by decide +kernel) rfl
theorem ws_L_law_259 : tm_s M_L_law d u0 Q u S n 259 L st h = tm_p1 st (fun y r => tm_p1 r (fun x r => (x = y → tm_w M_L_law d u0 Q u S n 264 L r h) ∧ (¬ x = y → tm_w M_L_law d u0 Q u S n 262 L r h))) := tm_r_iceq (off := 5) (by decide +kernel) rfl rfl
theorem ws_L_law_262 : tm_s M_L_law d u0 Q u S n 262 L st h = tm_w M_L_law d u0 Q u S n 263 L (.int 0 :: st) h := tm_r_iconst (k := 0) (by decide +kernel) rfl (by decide)
theorem ws_L_law_263 : tm_s M_L_law d u0 Q u S n 263 L st h = tm_p1 st (fun x r => r = [] ∧ (x = 0 ∨ x = 1) ∧ Q (.inl (some (.int x))) h) := tm_r_zret (by decide +kernel) rfl
theorem ws_L_law_264 : tm_s M_L_law d u0 Q u S n 264 L st h = tm_gI L 5 (fun x => tm_w M_L_law d u0 Q u S n 266 L (.int x :: st) h) := tm_r_iload (j := 5) (by decide +kernel) rfl
theorem ws_L_law_266 : tm_s M_L_law d u0 Q u S n 266 L st h = tm_p1 st (fun x r => (¬ x = 0 → tm_w M_L_law d u0 Q u S n 281 L r h) ∧ (¬ ¬ x = 0 → tm_w M_L_law d u0 Q u S n 269 L r h)) := tm_r_ifne (off := 15) (by decide +kernel) rfl rfl
theorem ws_L_law_269 : tm_s M_L_law d u0 Q u S n 269 L st h = tm_gA L 3 (fun x => tm_w M_L_law d u0 Q u S n 270 L (.ref x :: st) h) := tm_r_aload_n (i := 3) (by decide +kernel) rfl rfl
theorem ws_L_law_270 : tm_s M_L_law d u0 Q u S n 270 L st h = tm_w M_L_law d u0 Q u S n 271 L (.int 0 :: st) h := tm_r_iconst (k := 0) (by decide +kernel) rfl (by decide)
theorem ws_L_law_271 : tm_s M_L_law d u0 Q u S n 271 L st h = tm_p1 st (fun i r => tm_pA r (fun a r => tm_cJ (h a) (fun k f => vp_in i k ∧ tm_w M_L_law d u0 Q u S n 272 L (.long (f i.toNatClampNeg) :: r) h))) := tm_r_laload (by decide +kernel) rfl
theorem ws_L_law_272 : tm_s M_L_law d u0 Q u S n 272 L st h = tm_gI L 6 (fun x => tm_w M_L_law d u0 Q u S n 274 L (.int x :: st) h) := tm_r_iload (j := 6) (by decide +kernel) rfl
theorem ws_L_law_274 : tm_s M_L_law d u0 Q u S n 274 L st h = tm_p1 st (fun x r => tm_w M_L_law d u0 Q u S n 275 L (.long x.toInt64 :: r) h) := tm_r_i2l (by decide +kernel) rfl
theorem ws_L_law_275 : tm_s M_L_law d u0 Q u S n 275 L st h = tm_pJ st (fun y r => tm_pJ r (fun x r => tm_w M_L_law d u0 Q u S n 276 L (.int (lg_cmp x y) :: r) h)) := tm_r_lcmp (by decide +kernel) rfl
theorem ws_L_law_276 : tm_s M_L_law d u0 Q u S n 276 L st h = tm_p1 st (fun x r => (x = 0 → tm_w M_L_law d u0 Q u S n 281 L r h) ∧ (¬ x = 0 → tm_w M_L_law d u0 Q u S n 279 L r h)) := tm_r_ifeq (off := 5) (by decide +kernel) rfl rfl
theorem ws_L_law_279 : tm_s M_L_law d u0 Q u S n 279 L st h = tm_w M_L_law d u0 Q u S n 280 L (.int 0 :: st) h := tm_r_iconst (k := 0) (by decide +kernel) rfl (by decide)
theorem ws_L_law_280 : tm_s M_L_law d u0 Q u S n 280 L st h = tm_p1 st (fun x r => r = [] ∧ (x = 0 ∨ x = 1) ∧ Q (.inl (some (.int x))) h) := tm_r_zret (by decide +kernel) rfl
theorem ws_L_law_281 : tm_s M_L_law d u0 Q u S n 281 L st h = tm_w M_L_law d u0 Q u S n 1554 L st h := tm_r_goto (off := 1273) (by decide +kernel) rfl
theorem ws_L_law_284 : tm_s M_L_law d u0 Q u S n 284 L st h = tm_gA L 1 (fun x => tm_w M_L_law d u0 Q u S n 285 L (.ref x :: st) h) := tm_r_aload_n (i := 1) (by decide +kernel) rfl rfl
theorem ws_L_law_285 : tm_s M_L_law d u0 Q u S n 285 L st h = tm_gA L 0 (fun x => tm_w M_L_law d u0 Q u S n 286 L (.ref x :: st) h) := tm_r_aload_n (i := 0) (by decide +kernel) rfl rfl
theorem ws_L_law_286 : tm_s M_L_law d u0 Q u S n 286 L st h = tm_gI L 4 (fun x => tm_w M_L_law d u0 Q u S n 288 L (.int x :: st) h) := tm_r_iload (j := 4) (by decide +kernel) rfl
theorem ws_L_law_288 : tm_s M_L_law d u0 Q u S n 288 L st h = tm_w M_L_law d u0 Q u S n 289 L (.int 1 :: st) h := tm_r_iconst (k := 1) (by decide +kernel) rfl (by decide)
theorem ws_L_law_289 : tm_s M_L_law d u0 Q u S n 289 L st h = tm_p1 st (fun y r => tm_p1 r (fun x r => tm_w M_L_law d u0 Q u S n 290 L (.int (x + y) :: r) h)) := tm_r_iadd (by decide +kernel) rfl
theorem ws_L_law_290 : tm_s M_L_law d u0 Q u S n 290 L st h = tm_p1 st (fun i r => tm_pA r (fun a r => tm_cI (h a) (fun k f => vp_in i k ∧ tm_w M_L_law d u0 Q u S n 291 L (.int (f i.toNatClampNeg) :: r) h))) := tm_r_iaload (by decide +kernel) rfl
theorem ws_L_law_291 : tm_s M_L_law d u0 Q u S n 291 L st h = tm_gA L 0 (fun x => tm_w M_L_law d u0 Q u S n 292 L (.ref x :: st) h) := tm_r_aload_n (i := 0) (by decide +kernel) rfl rfl
theorem ws_L_law_292 : tm_s M_L_law d u0 Q u S n 292 L st h = tm_gI L 4 (fun x => tm_w M_L_law d u0 Q u S n 294 L (.int x :: st) h) := tm_r_iload (j := 4) (by decide +kernel) rfl
theorem ws_L_law_294 : tm_s M_L_law d u0 Q u S n 294 L st h = tm_w M_L_law d u0 Q u S n 295 L (.int 2 :: st) h := tm_r_iconst (k := 2) (by decide +kernel) rfl (by decide)
theorem ws_L_law_295 : tm_s M_L_law d u0 Q u S n 295 L st h = tm_p1 st (fun y r => tm_p1 r (fun x r => tm_w M_L_law d u0 Q u S n 296 L (.int (x + y) :: r) h)) := tm_r_iadd (by decide +kernel) rfl
theorem ws_L_law_296 : tm_s M_L_law d u0 Q u S n 296 L st h = tm_p1 st (fun i r => tm_pA r (fun a r => tm_cI (h a) (fun k f => vp_in i k ∧ tm_w M_L_law d u0 Q u S n 297 L (.int (f i.toNatClampNeg) :: r) h))) := tm_r_iaload (by decide +kernel) rfl
theorem ws_L_law_297 : tm_s M_L_law d u0 Q u S n 297 L st h = tm_gA L 0 (fun x => tm_w M_L_law d u0 Q u S n 298 L (.ref x :: st) h) := tm_r_aload_n (i := 0) (by decide +kernel) rfl rfl
theorem ws_L_law_298 : tm_s M_L_law d u0 Q u S n 298 L st h = tm_gI L 4 (fun x => tm_w M_L_law d u0 Q u S n 300 L (.int x :: st) h) := tm_r_iload (j := 4) (by decide +kernel) rfl
theorem ws_L_law_300 : tm_s M_L_law d u0 Q u S n 300 L st h = tm_w M_L_law d u0 Q u S n 301 L (.int 3 :: st) h := tm_r_iconst (k := 3) (by decide +kernel) rfl (by decide)
theorem ws_L_law_301 : tm_s M_L_law d u0 Q u S n 301 L st h = tm_p1 st (fun y r => tm_p1 r (fun x r => tm_w M_L_law d u0 Q u S n 302 L (.int (x + y) :: r) h)) := tm_r_iadd (by decide +kernel) rfl
theorem ws_L_law_302 : tm_s M_L_law d u0 Q u S n 302 L st h = tm_p1 st (fun i r => tm_pA r (fun a r => tm_cI (h a) (fun k f => vp_in i k ∧ tm_w M_L_law d u0 Q u S n 303 L (.int (f i.toNatClampNeg) :: r) h))) := tm_r_iaload (by decide +kernel) rfl
theorem ws_L_law_303 : tm_s M_L_law d u0 Q u S n 303 L st h = tm_gA L 3 (fun x => tm_w M_L_law d u0 Q u S n 304 L (.ref x :: st) h) := tm_r_aload_n (i := 3) (by decide +kernel) rfl rfl
theorem dd_L_law_304 : decode (tm_cc M_L_law) 304 = .ok (.invokestatic 101, 3) := by decide +kernel
theorem ws_L_law_304 : tm_s M_L_law d u0 Q u S n 304 L st h = tm_T M_L_law d u0 Q u 304 L st h := tm_r_invs dd_L_law_304
theorem ws_L_law_307 : tm_s M_L_law d u0 Q u S n 307 L st h = tm_p1 st (fun x r => tm_w M_L_law d u0 Q u S n 309 (L.set 5 (some (.int x))) r h) := tm_r_istore (j := 5) (by decide +kernel) rfl (by decide)
theorem ws_L_law_309 : tm_s M_L_law d u0 Q u S n 309 L st h = tm_gA L 2 (fun x => tm_w M_L_law d u0 Q u S n 310 L (.ref x :: st) h) := tm_r_aload_n (i := 2) (by decide +kernel) rfl rfl
theorem ws_L_law_310 : tm_s M_L_law d u0 Q u S n 310 L st h = tm_gA L 0 (fun x => tm_w M_L_law d u0 Q u S n 311 L (.ref x :: st) h) := tm_r_aload_n (i := 0) (by decide +kernel) rfl rfl
theorem ws_L_law_311 : tm_s M_L_law d u0 Q u S n 311 L st h = tm_gI L 4 (fun x => tm_w M_L_law d u0 Q u S n 313 L (.int x :: st) h) := tm_r_iload (j := 4) (by decide +kernel) rfl
theorem ws_L_law_313 : tm_s M_L_law d u0 Q u S n 313 L st h = tm_w M_L_law d u0 Q u S n 314 L (.int 1 :: st) h := tm_r_iconst (k := 1) (by decide +kernel) rfl (by decide)
theorem ws_L_law_314 : tm_s M_L_law d u0 Q u S n 314 L st h = tm_p1 st (fun y r => tm_p1 r (fun x r => tm_w M_L_law d u0 Q u S n 315 L (.int (x + y) :: r) h)) := tm_r_iadd (by decide +kernel) rfl
theorem ws_L_law_315 : tm_s M_L_law d u0 Q u S n 315 L st h = tm_p1 st (fun i r => tm_pA r (fun a r => tm_cI (h a) (fun k f => vp_in i k ∧ tm_w M_L_law d u0 Q u S n 316 L (.int (f i.toNatClampNeg) :: r) h))) := tm_r_iaload (by decide +kernel) rfl
theorem ws_L_law_316 : tm_s M_L_law d u0 Q u S n 316 L st h = tm_gA L 0 (fun x => tm_w M_L_law d u0 Q u S n 317 L (.ref x :: st) h) := tm_r_aload_n (i := 0) (by decide +kernel) rfl rfl
theorem ws_L_law_317 : tm_s M_L_law d u0 Q u S n 317 L st h = tm_gI L 4 (fun x => tm_w M_L_law d u0 Q u S n 319 L (.int x :: st) h) := tm_r_iload (j := 4) (by decide +kernel) rfl
theorem ws_L_law_319 : tm_s M_L_law d u0 Q u S n 319 L st h = tm_w M_L_law d u0 Q u S n 320 L (.int 2 :: st) h := tm_r_iconst (k := 2) (by decide +kernel) rfl (by decide)
theorem ws_L_law_320 : tm_s M_L_law d u0 Q u S n 320 L st h = tm_p1 st (fun y r => tm_p1 r (fun x r => tm_w M_L_law d u0 Q u S n 321 L (.int (x + y) :: r) h)) := tm_r_iadd (by decide +kernel) rfl
theorem ws_L_law_321 : tm_s M_L_law d u0 Q u S n 321 L st h = tm_p1 st (fun i r => tm_pA r (fun a r => tm_cI (h a) (fun k f => vp_in i k ∧ tm_w M_L_law d u0 Q u S n 322 L (.int (f i.toNatClampNeg) :: r) h))) := tm_r_iaload (by decide +kernel) rfl
theorem ws_L_law_322 : tm_s M_L_law d u0 Q u S n 322 L st h = tm_gA L 0 (fun x => tm_w M_L_law d u0 Q u S n 323 L (.ref x :: st) h) := tm_r_aload_n (i := 0) (by decide +kernel) rfl rfl
theorem ws_L_law_323 : tm_s M_L_law d u0 Q u S n 323 L st h = tm_gI L 4 (fun x => tm_w M_L_law d u0 Q u S n 325 L (.int x :: st) h) := tm_r_iload (j := 4) (by decide +kernel) rfl
theorem ws_L_law_325 : tm_s M_L_law d u0 Q u S n 325 L st h = tm_w M_L_law d u0 Q u S n 326 L (.int 3 :: st) h := tm_r_iconst (k := 3) (by decide +kernel) rfl (by decide)
theorem ws_L_law_326 : tm_s M_L_law d u0 Q u S n 326 L st h = tm_p1 st (fun y r => tm_p1 r (fun x r => tm_w M_L_law d u0 Q u S n 327 L (.int (x + y) :: r) h)) := tm_r_iadd (by decide +kernel) rfl
theorem ws_L_law_327 : tm_s M_L_law d u0 Q u S n 327 L st h = tm_p1 st (fun i r => tm_pA r (fun a r => tm_cI (h a) (fun k f => vp_in i k ∧ tm_w M_L_law d u0 Q u S n 328 L (.int (f i.toNatClampNeg) :: r) h))) := tm_r_iaload (by decide +kernel) rfl
theorem dd_L_law_328 : decode (tm_cc M_L_law) 328 = .ok (.invokevirtual 103, 3) := by decide +kernel
theorem ws_L_law_328 : tm_s M_L_law d u0 Q u S n 328 L st h = tm_T M_L_law d u0 Q u 328 L st h := tm_r_invv dd_L_law_328
theorem ws_L_law_331 : tm_s M_L_law d u0 Q u S n 331 L st h = tm_p1 st (fun x r => tm_w M_L_law d u0 Q u S n 333 (L.set 6 (some (.int x))) r h) := tm_r_istore (j := 6) (by decide +kernel) rfl (by decide)
theorem ws_L_law_333 : tm_s M_L_law d u0 Q u S n 333 L st h = tm_gA L 2 (fun x => tm_w M_L_law d u0 Q u S n 334 L (.ref x :: st) h) := tm_r_aload_n (i := 2) (by decide +kernel) rfl rfl
theorem dd_L_law_334 : decode (tm_cc M_L_law) 334 = .ok (.invokevirtual 93, 3) := by decide +kernel
theorem ws_L_law_334 : tm_s M_L_law d u0 Q u S n 334 L st h = tm_T M_L_law d u0 Q u 334 L st h := tm_r_invv dd_L_law_334
theorem ws_L_law_337 : tm_s M_L_law d u0 Q u S n 337 L st h = tm_gI L 5 (fun x => tm_w M_L_law d u0 Q u S n 339 L (.int x :: st) h) := tm_r_iload (j := 5) (by decide +kernel) rfl
theorem ws_L_law_339 : tm_s M_L_law d u0 Q u S n 339 L st h = tm_p1 st (fun y r => tm_p1 r (fun x r => (x = y → tm_w M_L_law d u0 Q u S n 344 L r h) ∧ (¬ x = y → tm_w M_L_law d u0 Q u S n 342 L r h))) := tm_r_iceq (off := 5) (by decide +kernel) rfl rfl
theorem ws_L_law_342 : tm_s M_L_law d u0 Q u S n 342 L st h = tm_w M_L_law d u0 Q u S n 343 L (.int 0 :: st) h := tm_r_iconst (k := 0) (by decide +kernel) rfl (by decide)
theorem ws_L_law_343 : tm_s M_L_law d u0 Q u S n 343 L st h = tm_p1 st (fun x r => r = [] ∧ (x = 0 ∨ x = 1) ∧ Q (.inl (some (.int x))) h) := tm_r_zret (by decide +kernel) rfl
theorem ws_L_law_344 : tm_s M_L_law d u0 Q u S n 344 L st h = tm_gI L 5 (fun x => tm_w M_L_law d u0 Q u S n 346 L (.int x :: st) h) := tm_r_iload (j := 5) (by decide +kernel) rfl
theorem ws_L_law_346 : tm_s M_L_law d u0 Q u S n 346 L st h = tm_p1 st (fun x r => (¬ x = 0 → tm_w M_L_law d u0 Q u S n 361 L r h) ∧ (¬ ¬ x = 0 → tm_w M_L_law d u0 Q u S n 349 L r h)) := tm_r_ifne (off := 15) (by decide +kernel) rfl rfl
theorem ws_L_law_349 : tm_s M_L_law d u0 Q u S n 349 L st h = tm_gA L 3 (fun x => tm_w M_L_law d u0 Q u S n 350 L (.ref x :: st) h) := tm_r_aload_n (i := 3) (by decide +kernel) rfl rfl
theorem ws_L_law_350 : tm_s M_L_law d u0 Q u S n 350 L st h = tm_w M_L_law d u0 Q u S n 351 L (.int 0 :: st) h := tm_r_iconst (k := 0) (by decide +kernel) rfl (by decide)
theorem ws_L_law_351 : tm_s M_L_law d u0 Q u S n 351 L st h = tm_p1 st (fun i r => tm_pA r (fun a r => tm_cJ (h a) (fun k f => vp_in i k ∧ tm_w M_L_law d u0 Q u S n 352 L (.long (f i.toNatClampNeg) :: r) h))) := tm_r_laload (by decide +kernel) rfl
theorem ws_L_law_352 : tm_s M_L_law d u0 Q u S n 352 L st h = tm_gI L 6 (fun x => tm_w M_L_law d u0 Q u S n 354 L (.int x :: st) h) := tm_r_iload (j := 6) (by decide +kernel) rfl
theorem ws_L_law_354 : tm_s M_L_law d u0 Q u S n 354 L st h = tm_p1 st (fun x r => tm_w M_L_law d u0 Q u S n 355 L (.long x.toInt64 :: r) h) := tm_r_i2l (by decide +kernel) rfl
theorem ws_L_law_355 : tm_s M_L_law d u0 Q u S n 355 L st h = tm_pJ st (fun y r => tm_pJ r (fun x r => tm_w M_L_law d u0 Q u S n 356 L (.int (lg_cmp x y) :: r) h)) := tm_r_lcmp (by decide +kernel) rfl
theorem ws_L_law_356 : tm_s M_L_law d u0 Q u S n 356 L st h = tm_p1 st (fun x r => (x = 0 → tm_w M_L_law d u0 Q u S n 361 L r h) ∧ (¬ x = 0 → tm_w M_L_law d u0 Q u S n 359 L r h)) := tm_r_ifeq (off := 5) (by decide +kernel) rfl rfl
theorem ws_L_law_359 : tm_s M_L_law d u0 Q u S n 359 L st h = tm_w M_L_law d u0 Q u S n 360 L (.int 0 :: st) h := tm_r_iconst (k := 0) (by decide +kernel) rfl (by decide)
theorem ws_L_law_360 : tm_s M_L_law d u0 Q u S n 360 L st h = tm_p1 st (fun x r => r = [] ∧ (x = 0 ∨ x = 1) ∧ Q (.inl (some (.int x))) h) := tm_r_zret (by decide +kernel) rfl
theorem ws_L_law_361 : tm_s M_L_law d u0 Q u S n 361 L st h = tm_w M_L_law d u0 Q u S n 1554 L st h := tm_r_goto (off := 1193) (by decide +kernel) rfl
theorem ws_L_law_364 : tm_s M_L_law d u0 Q u S n 364 L st h = tm_gA L 1 (fun x => tm_w M_L_law d u0 Q u S n 365 L (.ref x :: st) h) := tm_r_aload_n (i := 1) (by decide +kernel) rfl rfl
theorem ws_L_law_365 : tm_s M_L_law d u0 Q u S n 365 L st h = tm_gA L 0 (fun x => tm_w M_L_law d u0 Q u S n 366 L (.ref x :: st) h) := tm_r_aload_n (i := 0) (by decide +kernel) rfl rfl
theorem ws_L_law_366 : tm_s M_L_law d u0 Q u S n 366 L st h = tm_gI L 4 (fun x => tm_w M_L_law d u0 Q u S n 368 L (.int x :: st) h) := tm_r_iload (j := 4) (by decide +kernel) rfl
theorem ws_L_law_368 : tm_s M_L_law d u0 Q u S n 368 L st h = tm_w M_L_law d u0 Q u S n 369 L (.int 1 :: st) h := tm_r_iconst (k := 1) (by decide +kernel) rfl (by decide)
theorem ws_L_law_369 : tm_s M_L_law d u0 Q u S n 369 L st h = tm_p1 st (fun y r => tm_p1 r (fun x r => tm_w M_L_law d u0 Q u S n 370 L (.int (x + y) :: r) h)) := tm_r_iadd (by decide +kernel) rfl
theorem ws_L_law_370 : tm_s M_L_law d u0 Q u S n 370 L st h = tm_p1 st (fun i r => tm_pA r (fun a r => tm_cI (h a) (fun k f => vp_in i k ∧ tm_w M_L_law d u0 Q u S n 371 L (.int (f i.toNatClampNeg) :: r) h))) := tm_r_iaload (by decide +kernel) rfl
theorem ws_L_law_371 : tm_s M_L_law d u0 Q u S n 371 L st h = tm_gA L 0 (fun x => tm_w M_L_law d u0 Q u S n 372 L (.ref x :: st) h) := tm_r_aload_n (i := 0) (by decide +kernel) rfl rfl
theorem ws_L_law_372 : tm_s M_L_law d u0 Q u S n 372 L st h = tm_gI L 4 (fun x => tm_w M_L_law d u0 Q u S n 374 L (.int x :: st) h) := tm_r_iload (j := 4) (by decide +kernel) rfl
theorem ws_L_law_374 : tm_s M_L_law d u0 Q u S n 374 L st h = tm_w M_L_law d u0 Q u S n 375 L (.int 2 :: st) h := tm_r_iconst (k := 2) (by decide +kernel) rfl (by decide)
theorem ws_L_law_375 : tm_s M_L_law d u0 Q u S n 375 L st h = tm_p1 st (fun y r => tm_p1 r (fun x r => tm_w M_L_law d u0 Q u S n 376 L (.int (x + y) :: r) h)) := tm_r_iadd (by decide +kernel) rfl
theorem ws_L_law_376 : tm_s M_L_law d u0 Q u S n 376 L st h = tm_p1 st (fun i r => tm_pA r (fun a r => tm_cI (h a) (fun k f => vp_in i k ∧ tm_w M_L_law d u0 Q u S n 377 L (.int (f i.toNatClampNeg) :: r) h))) := tm_r_iaload (by decide +kernel) rfl
theorem ws_L_law_377 : tm_s M_L_law d u0 Q u S n 377 L st h = tm_gA L 0 (fun x => tm_w M_L_law d u0 Q u S n 378 L (.ref x :: st) h) := tm_r_aload_n (i := 0) (by decide +kernel) rfl rfl
theorem ws_L_law_378 : tm_s M_L_law d u0 Q u S n 378 L st h = tm_gI L 4 (fun x => tm_w M_L_law d u0 Q u S n 380 L (.int x :: st) h) := tm_r_iload (j := 4) (by decide +kernel) rfl
theorem ws_L_law_380 : tm_s M_L_law d u0 Q u S n 380 L st h = tm_w M_L_law d u0 Q u S n 381 L (.int 3 :: st) h := tm_r_iconst (k := 3) (by decide +kernel) rfl (by decide)
theorem ws_L_law_381 : tm_s M_L_law d u0 Q u S n 381 L st h = tm_p1 st (fun y r => tm_p1 r (fun x r => tm_w M_L_law d u0 Q u S n 382 L (.int (x + y) :: r) h)) := tm_r_iadd (by decide +kernel) rfl
theorem ws_L_law_382 : tm_s M_L_law d u0 Q u S n 382 L st h = tm_p1 st (fun i r => tm_pA r (fun a r => tm_cI (h a) (fun k f => vp_in i k ∧ tm_w M_L_law d u0 Q u S n 383 L (.int (f i.toNatClampNeg) :: r) h))) := tm_r_iaload (by decide +kernel) rfl
theorem ws_L_law_383 : tm_s M_L_law d u0 Q u S n 383 L st h = tm_gA L 3 (fun x => tm_w M_L_law d u0 Q u S n 384 L (.ref x :: st) h) := tm_r_aload_n (i := 3) (by decide +kernel) rfl rfl
theorem dd_L_law_384 : decode (tm_cc M_L_law) 384 = .ok (.invokestatic 104, 3) := by decide +kernel
theorem ws_L_law_384 : tm_s M_L_law d u0 Q u S n 384 L st h = tm_T M_L_law d u0 Q u 384 L st h := tm_r_invs dd_L_law_384
theorem ws_L_law_387 : tm_s M_L_law d u0 Q u S n 387 L st h = tm_p1 st (fun x r => tm_w M_L_law d u0 Q u S n 389 (L.set 5 (some (.int x))) r h) := tm_r_istore (j := 5) (by decide +kernel) rfl (by decide)
theorem ws_L_law_389 : tm_s M_L_law d u0 Q u S n 389 L st h = tm_gA L 2 (fun x => tm_w M_L_law d u0 Q u S n 390 L (.ref x :: st) h) := tm_r_aload_n (i := 2) (by decide +kernel) rfl rfl
theorem ws_L_law_390 : tm_s M_L_law d u0 Q u S n 390 L st h = tm_gA L 0 (fun x => tm_w M_L_law d u0 Q u S n 391 L (.ref x :: st) h) := tm_r_aload_n (i := 0) (by decide +kernel) rfl rfl
theorem ws_L_law_391 : tm_s M_L_law d u0 Q u S n 391 L st h = tm_gI L 4 (fun x => tm_w M_L_law d u0 Q u S n 393 L (.int x :: st) h) := tm_r_iload (j := 4) (by decide +kernel) rfl
theorem ws_L_law_393 : tm_s M_L_law d u0 Q u S n 393 L st h = tm_w M_L_law d u0 Q u S n 394 L (.int 1 :: st) h := tm_r_iconst (k := 1) (by decide +kernel) rfl (by decide)
theorem ws_L_law_394 : tm_s M_L_law d u0 Q u S n 394 L st h = tm_p1 st (fun y r => tm_p1 r (fun x r => tm_w M_L_law d u0 Q u S n 395 L (.int (x + y) :: r) h)) := tm_r_iadd (by decide +kernel) rfl
theorem ws_L_law_395 : tm_s M_L_law d u0 Q u S n 395 L st h = tm_p1 st (fun i r => tm_pA r (fun a r => tm_cI (h a) (fun k f => vp_in i k ∧ tm_w M_L_law d u0 Q u S n 396 L (.int (f i.toNatClampNeg) :: r) h))) := tm_r_iaload (by decide +kernel) rfl
theorem ws_L_law_396 : tm_s M_L_law d u0 Q u S n 396 L st h = tm_gA L 0 (fun x => tm_w M_L_law d u0 Q u S n 397 L (.ref x :: st) h) := tm_r_aload_n (i := 0) (by decide +kernel) rfl rfl
theorem ws_L_law_397 : tm_s M_L_law d u0 Q u S n 397 L st h = tm_gI L 4 (fun x => tm_w M_L_law d u0 Q u S n 399 L (.int x :: st) h) := tm_r_iload (j := 4) (by decide +kernel) rfl
theorem ws_L_law_399 : tm_s M_L_law d u0 Q u S n 399 L st h = tm_w M_L_law d u0 Q u S n 400 L (.int 2 :: st) h := tm_r_iconst (k := 2) (by decide +kernel) rfl (by decide)
theorem ws_L_law_400 : tm_s M_L_law d u0 Q u S n 400 L st h = tm_p1 st (fun y r => tm_p1 r (fun x r => tm_w M_L_law d u0 Q u S n 401 L (.int (x + y) :: r) h)) := tm_r_iadd (by decide +kernel) rfl
theorem ws_L_law_401 : tm_s M_L_law d u0 Q u S n 401 L st h = tm_p1 st (fun i r => tm_pA r (fun a r => tm_cI (h a) (fun k f => vp_in i k ∧ tm_w M_L_law d u0 Q u S n 402 L (.int (f i.toNatClampNeg) :: r) h))) := tm_r_iaload (by decide +kernel) rfl
theorem ws_L_law_402 : tm_s M_L_law d u0 Q u S n 402 L st h = tm_gA L 0 (fun x => tm_w M_L_law d u0 Q u S n 403 L (.ref x :: st) h) := tm_r_aload_n (i := 0) (by decide +kernel) rfl rfl
theorem ws_L_law_403 : tm_s M_L_law d u0 Q u S n 403 L st h = tm_gI L 4 (fun x => tm_w M_L_law d u0 Q u S n 405 L (.int x :: st) h) := tm_r_iload (j := 4) (by decide +kernel) rfl
theorem ws_L_law_405 : tm_s M_L_law d u0 Q u S n 405 L st h = tm_w M_L_law d u0 Q u S n 406 L (.int 3 :: st) h := tm_r_iconst (k := 3) (by decide +kernel) rfl (by decide)
theorem ws_L_law_406 : tm_s M_L_law d u0 Q u S n 406 L st h = tm_p1 st (fun y r => tm_p1 r (fun x r => tm_w M_L_law d u0 Q u S n 407 L (.int (x + y) :: r) h)) := tm_r_iadd (by decide +kernel) rfl
theorem ws_L_law_407 : tm_s M_L_law d u0 Q u S n 407 L st h = tm_p1 st (fun i r => tm_pA r (fun a r => tm_cI (h a) (fun k f => vp_in i k ∧ tm_w M_L_law d u0 Q u S n 408 L (.int (f i.toNatClampNeg) :: r) h))) := tm_r_iaload (by decide +kernel) rfl
theorem dd_L_law_408 : decode (tm_cc M_L_law) 408 = .ok (.invokevirtual 106, 3) := by decide +kernel
theorem ws_L_law_408 : tm_s M_L_law d u0 Q u S n 408 L st h = tm_T M_L_law d u0 Q u 408 L st h := tm_r_invv dd_L_law_408
theorem ws_L_law_411 : tm_s M_L_law d u0 Q u S n 411 L st h = tm_p1 st (fun x r => tm_w M_L_law d u0 Q u S n 413 (L.set 6 (some (.int x))) r h) := tm_r_istore (j := 6) (by decide +kernel) rfl (by decide)
theorem ws_L_law_413 : tm_s M_L_law d u0 Q u S n 413 L st h = tm_gA L 2 (fun x => tm_w M_L_law d u0 Q u S n 414 L (.ref x :: st) h) := tm_r_aload_n (i := 2) (by decide +kernel) rfl rfl
theorem dd_L_law_414 : decode (tm_cc M_L_law) 414 = .ok (.invokevirtual 93, 3) := by decide +kernel
theorem ws_L_law_414 : tm_s M_L_law d u0 Q u S n 414 L st h = tm_T M_L_law d u0 Q u 414 L st h := tm_r_invv dd_L_law_414
theorem ws_L_law_417 : tm_s M_L_law d u0 Q u S n 417 L st h = tm_gI L 5 (fun x => tm_w M_L_law d u0 Q u S n 419 L (.int x :: st) h) := tm_r_iload (j := 5) (by decide +kernel) rfl
theorem ws_L_law_419 : tm_s M_L_law d u0 Q u S n 419 L st h = tm_p1 st (fun y r => tm_p1 r (fun x r => (x = y → tm_w M_L_law d u0 Q u S n 424 L r h) ∧ (¬ x = y → tm_w M_L_law d u0 Q u S n 422 L r h))) := tm_r_iceq (off := 5) (by decide +kernel) rfl rfl
theorem ws_L_law_422 : tm_s M_L_law d u0 Q u S n 422 L st h = tm_w M_L_law d u0 Q u S n 423 L (.int 0 :: st) h := tm_r_iconst (k := 0) (by decide +kernel) rfl (by decide)
theorem ws_L_law_423 : tm_s M_L_law d u0 Q u S n 423 L st h = tm_p1 st (fun x r => r = [] ∧ (x = 0 ∨ x = 1) ∧ Q (.inl (some (.int x))) h) := tm_r_zret (by decide +kernel) rfl
theorem ws_L_law_424 : tm_s M_L_law d u0 Q u S n 424 L st h = tm_gI L 5 (fun x => tm_w M_L_law d u0 Q u S n 426 L (.int x :: st) h) := tm_r_iload (j := 5) (by decide +kernel) rfl
theorem ws_L_law_426 : tm_s M_L_law d u0 Q u S n 426 L st h = tm_p1 st (fun x r => (¬ x = 0 → tm_w M_L_law d u0 Q u S n 441 L r h) ∧ (¬ ¬ x = 0 → tm_w M_L_law d u0 Q u S n 429 L r h)) := tm_r_ifne (off := 15) (by decide +kernel) rfl rfl
theorem ws_L_law_429 : tm_s M_L_law d u0 Q u S n 429 L st h = tm_gA L 3 (fun x => tm_w M_L_law d u0 Q u S n 430 L (.ref x :: st) h) := tm_r_aload_n (i := 3) (by decide +kernel) rfl rfl
theorem ws_L_law_430 : tm_s M_L_law d u0 Q u S n 430 L st h = tm_w M_L_law d u0 Q u S n 431 L (.int 0 :: st) h := tm_r_iconst (k := 0) (by decide +kernel) rfl (by decide)
theorem ws_L_law_431 : tm_s M_L_law d u0 Q u S n 431 L st h = tm_p1 st (fun i r => tm_pA r (fun a r => tm_cJ (h a) (fun k f => vp_in i k ∧ tm_w M_L_law d u0 Q u S n 432 L (.long (f i.toNatClampNeg) :: r) h))) := tm_r_laload (by decide +kernel) rfl
theorem ws_L_law_432 : tm_s M_L_law d u0 Q u S n 432 L st h = tm_gI L 6 (fun x => tm_w M_L_law d u0 Q u S n 434 L (.int x :: st) h) := tm_r_iload (j := 6) (by decide +kernel) rfl
theorem ws_L_law_434 : tm_s M_L_law d u0 Q u S n 434 L st h = tm_p1 st (fun x r => tm_w M_L_law d u0 Q u S n 435 L (.long x.toInt64 :: r) h) := tm_r_i2l (by decide +kernel) rfl
theorem ws_L_law_435 : tm_s M_L_law d u0 Q u S n 435 L st h = tm_pJ st (fun y r => tm_pJ r (fun x r => tm_w M_L_law d u0 Q u S n 436 L (.int (lg_cmp x y) :: r) h)) := tm_r_lcmp (by decide +kernel) rfl
theorem ws_L_law_436 : tm_s M_L_law d u0 Q u S n 436 L st h = tm_p1 st (fun x r => (x = 0 → tm_w M_L_law d u0 Q u S n 441 L r h) ∧ (¬ x = 0 → tm_w M_L_law d u0 Q u S n 439 L r h)) := tm_r_ifeq (off := 5) (by decide +kernel) rfl rfl
theorem ws_L_law_439 : tm_s M_L_law d u0 Q u S n 439 L st h = tm_w M_L_law d u0 Q u S n 440 L (.int 0 :: st) h := tm_r_iconst (k := 0) (by decide +kernel) rfl (by decide)
theorem ws_L_law_440 : tm_s M_L_law d u0 Q u S n 440 L st h = tm_p1 st (fun x r => r = [] ∧ (x = 0 ∨ x = 1) ∧ Q (.inl (some (.int x))) h) := tm_r_zret (by decide +kernel) rfl
theorem ws_L_law_441 : tm_s M_L_law d u0 Q u S n 441 L st h = tm_w M_L_law d u0 Q u S n 1554 L st h := tm_r_goto (off := 1113) (by decide +kernel) rfl
theorem ws_L_law_444 : tm_s M_L_law d u0 Q u S n 444 L st h = tm_gA L 1 (fun x => tm_w M_L_law d u0 Q u S n 445 L (.ref x :: st) h) := tm_r_aload_n (i := 1) (by decide +kernel) rfl rfl
theorem ws_L_law_445 : tm_s M_L_law d u0 Q u S n 445 L st h = tm_gA L 0 (fun x => tm_w M_L_law d u0 Q u S n 446 L (.ref x :: st) h) := tm_r_aload_n (i := 0) (by decide +kernel) rfl rfl
theorem ws_L_law_446 : tm_s M_L_law d u0 Q u S n 446 L st h = tm_gI L 4 (fun x => tm_w M_L_law d u0 Q u S n 448 L (.int x :: st) h) := tm_r_iload (j := 4) (by decide +kernel) rfl
theorem ws_L_law_448 : tm_s M_L_law d u0 Q u S n 448 L st h = tm_w M_L_law d u0 Q u S n 449 L (.int 1 :: st) h := tm_r_iconst (k := 1) (by decide +kernel) rfl (by decide)
theorem ws_L_law_449 : tm_s M_L_law d u0 Q u S n 449 L st h = tm_p1 st (fun y r => tm_p1 r (fun x r => tm_w M_L_law d u0 Q u S n 450 L (.int (x + y) :: r) h)) := tm_r_iadd (by decide +kernel) rfl
theorem ws_L_law_450 : tm_s M_L_law d u0 Q u S n 450 L st h = tm_p1 st (fun i r => tm_pA r (fun a r => tm_cI (h a) (fun k f => vp_in i k ∧ tm_w M_L_law d u0 Q u S n 451 L (.int (f i.toNatClampNeg) :: r) h))) := tm_r_iaload (by decide +kernel) rfl
theorem ws_L_law_451 : tm_s M_L_law d u0 Q u S n 451 L st h = tm_gA L 3 (fun x => tm_w M_L_law d u0 Q u S n 452 L (.ref x :: st) h) := tm_r_aload_n (i := 3) (by decide +kernel) rfl rfl
theorem dd_L_law_452 : decode (tm_cc M_L_law) 452 = .ok (.invokestatic 107, 3) := by decide +kernel
theorem ws_L_law_452 : tm_s M_L_law d u0 Q u S n 452 L st h = tm_T M_L_law d u0 Q u 452 L st h := tm_r_invs dd_L_law_452
theorem ws_L_law_455 : tm_s M_L_law d u0 Q u S n 455 L st h = tm_p1 st (fun x r => tm_w M_L_law d u0 Q u S n 457 (L.set 5 (some (.int x))) r h) := tm_r_istore (j := 5) (by decide +kernel) rfl (by decide)
theorem ws_L_law_457 : tm_s M_L_law d u0 Q u S n 457 L st h = tm_gA L 2 (fun x => tm_w M_L_law d u0 Q u S n 458 L (.ref x :: st) h) := tm_r_aload_n (i := 2) (by decide +kernel) rfl rfl
theorem ws_L_law_458 : tm_s M_L_law d u0 Q u S n 458 L st h = tm_gA L 0 (fun x => tm_w M_L_law d u0 Q u S n 459 L (.ref x :: st) h) := tm_r_aload_n (i := 0) (by decide +kernel) rfl rfl
theorem ws_L_law_459 : tm_s M_L_law d u0 Q u S n 459 L st h = tm_gI L 4 (fun x => tm_w M_L_law d u0 Q u S n 461 L (.int x :: st) h) := tm_r_iload (j := 4) (by decide +kernel) rfl
theorem ws_L_law_461 : tm_s M_L_law d u0 Q u S n 461 L st h = tm_w M_L_law d u0 Q u S n 462 L (.int 1 :: st) h := tm_r_iconst (k := 1) (by decide +kernel) rfl (by decide)
theorem ws_L_law_462 : tm_s M_L_law d u0 Q u S n 462 L st h = tm_p1 st (fun y r => tm_p1 r (fun x r => tm_w M_L_law d u0 Q u S n 463 L (.int (x + y) :: r) h)) := tm_r_iadd (by decide +kernel) rfl
theorem ws_L_law_463 : tm_s M_L_law d u0 Q u S n 463 L st h = tm_p1 st (fun i r => tm_pA r (fun a r => tm_cI (h a) (fun k f => vp_in i k ∧ tm_w M_L_law d u0 Q u S n 464 L (.int (f i.toNatClampNeg) :: r) h))) := tm_r_iaload (by decide +kernel) rfl
theorem dd_L_law_464 : decode (tm_cc M_L_law) 464 = .ok (.invokevirtual 110, 3) := by decide +kernel
theorem ws_L_law_464 : tm_s M_L_law d u0 Q u S n 464 L st h = tm_T M_L_law d u0 Q u 464 L st h := tm_r_invv dd_L_law_464
theorem ws_L_law_467 : tm_s M_L_law d u0 Q u S n 467 L st h = tm_p1 st (fun x r => tm_w M_L_law d u0 Q u S n 469 (L.set 6 (some (.int x))) r h) := tm_r_istore (j := 6) (by decide +kernel) rfl (by decide)
theorem ws_L_law_469 : tm_s M_L_law d u0 Q u S n 469 L st h = tm_gA L 2 (fun x => tm_w M_L_law d u0 Q u S n 470 L (.ref x :: st) h) := tm_r_aload_n (i := 2) (by decide +kernel) rfl rfl
theorem dd_L_law_470 : decode (tm_cc M_L_law) 470 = .ok (.invokevirtual 93, 3) := by decide +kernel
theorem ws_L_law_470 : tm_s M_L_law d u0 Q u S n 470 L st h = tm_T M_L_law d u0 Q u 470 L st h := tm_r_invv dd_L_law_470
theorem ws_L_law_473 : tm_s M_L_law d u0 Q u S n 473 L st h = tm_gI L 5 (fun x => tm_w M_L_law d u0 Q u S n 475 L (.int x :: st) h) := tm_r_iload (j := 5) (by decide +kernel) rfl
theorem ws_L_law_475 : tm_s M_L_law d u0 Q u S n 475 L st h = tm_p1 st (fun y r => tm_p1 r (fun x r => (x = y → tm_w M_L_law d u0 Q u S n 480 L r h) ∧ (¬ x = y → tm_w M_L_law d u0 Q u S n 478 L r h))) := tm_r_iceq (off := 5) (by decide +kernel) rfl rfl
theorem ws_L_law_478 : tm_s M_L_law d u0 Q u S n 478 L st h = tm_w M_L_law d u0 Q u S n 479 L (.int 0 :: st) h := tm_r_iconst (k := 0) (by decide +kernel) rfl (by decide)
theorem ws_L_law_479 : tm_s M_L_law d u0 Q u S n 479 L st h = tm_p1 st (fun x r => r = [] ∧ (x = 0 ∨ x = 1) ∧ Q (.inl (some (.int x))) h) := tm_r_zret (by decide +kernel) rfl
theorem ws_L_law_480 : tm_s M_L_law d u0 Q u S n 480 L st h = tm_gI L 5 (fun x => tm_w M_L_law d u0 Q u S n 482 L (.int x :: st) h) := tm_r_iload (j := 5) (by decide +kernel) rfl
theorem ws_L_law_482 : tm_s M_L_law d u0 Q u S n 482 L st h = tm_p1 st (fun x r => (¬ x = 0 → tm_w M_L_law d u0 Q u S n 497 L r h) ∧ (¬ ¬ x = 0 → tm_w M_L_law d u0 Q u S n 485 L r h)) := tm_r_ifne (off := 15) (by decide +kernel) rfl rfl
theorem ws_L_law_485 : tm_s M_L_law d u0 Q u S n 485 L st h = tm_gA L 3 (fun x => tm_w M_L_law d u0 Q u S n 486 L (.ref x :: st) h) := tm_r_aload_n (i := 3) (by decide +kernel) rfl rfl
theorem ws_L_law_486 : tm_s M_L_law d u0 Q u S n 486 L st h = tm_w M_L_law d u0 Q u S n 487 L (.int 0 :: st) h := tm_r_iconst (k := 0) (by decide +kernel) rfl (by decide)
theorem ws_L_law_487 : tm_s M_L_law d u0 Q u S n 487 L st h = tm_p1 st (fun i r => tm_pA r (fun a r => tm_cJ (h a) (fun k f => vp_in i k ∧ tm_w M_L_law d u0 Q u S n 488 L (.long (f i.toNatClampNeg) :: r) h))) := tm_r_laload (by decide +kernel) rfl
theorem ws_L_law_488 : tm_s M_L_law d u0 Q u S n 488 L st h = tm_gI L 6 (fun x => tm_w M_L_law d u0 Q u S n 490 L (.int x :: st) h) := tm_r_iload (j := 6) (by decide +kernel) rfl
theorem ws_L_law_490 : tm_s M_L_law d u0 Q u S n 490 L st h = tm_p1 st (fun x r => tm_w M_L_law d u0 Q u S n 491 L (.long x.toInt64 :: r) h) := tm_r_i2l (by decide +kernel) rfl
theorem ws_L_law_491 : tm_s M_L_law d u0 Q u S n 491 L st h = tm_pJ st (fun y r => tm_pJ r (fun x r => tm_w M_L_law d u0 Q u S n 492 L (.int (lg_cmp x y) :: r) h)) := tm_r_lcmp (by decide +kernel) rfl
theorem ws_L_law_492 : tm_s M_L_law d u0 Q u S n 492 L st h = tm_p1 st (fun x r => (x = 0 → tm_w M_L_law d u0 Q u S n 497 L r h) ∧ (¬ x = 0 → tm_w M_L_law d u0 Q u S n 495 L r h)) := tm_r_ifeq (off := 5) (by decide +kernel) rfl rfl
theorem ws_L_law_495 : tm_s M_L_law d u0 Q u S n 495 L st h = tm_w M_L_law d u0 Q u S n 496 L (.int 0 :: st) h := tm_r_iconst (k := 0) (by decide +kernel) rfl (by decide)
theorem ws_L_law_496 : tm_s M_L_law d u0 Q u S n 496 L st h = tm_p1 st (fun x r => r = [] ∧ (x = 0 ∨ x = 1) ∧ Q (.inl (some (.int x))) h) := tm_r_zret (by decide +kernel) rfl
theorem ws_L_law_497 : tm_s M_L_law d u0 Q u S n 497 L st h = tm_w M_L_law d u0 Q u S n 1554 L st h := tm_r_goto (off := 1057) (by decide +kernel) rfl
theorem ws_L_law_500 : tm_s M_L_law d u0 Q u S n 500 L st h = tm_gA L 1 (fun x => tm_w M_L_law d u0 Q u S n 501 L (.ref x :: st) h) := tm_r_aload_n (i := 1) (by decide +kernel) rfl rfl
theorem ws_L_law_501 : tm_s M_L_law d u0 Q u S n 501 L st h = tm_gA L 0 (fun x => tm_w M_L_law d u0 Q u S n 502 L (.ref x :: st) h) := tm_r_aload_n (i := 0) (by decide +kernel) rfl rfl
theorem ws_L_law_502 : tm_s M_L_law d u0 Q u S n 502 L st h = tm_gI L 4 (fun x => tm_w M_L_law d u0 Q u S n 504 L (.int x :: st) h) := tm_r_iload (j := 4) (by decide +kernel) rfl
theorem ws_L_law_504 : tm_s M_L_law d u0 Q u S n 504 L st h = tm_w M_L_law d u0 Q u S n 505 L (.int 1 :: st) h := tm_r_iconst (k := 1) (by decide +kernel) rfl (by decide)
theorem ws_L_law_505 : tm_s M_L_law d u0 Q u S n 505 L st h = tm_p1 st (fun y r => tm_p1 r (fun x r => tm_w M_L_law d u0 Q u S n 506 L (.int (x + y) :: r) h)) := tm_r_iadd (by decide +kernel) rfl
theorem ws_L_law_506 : tm_s M_L_law d u0 Q u S n 506 L st h = tm_p1 st (fun i r => tm_pA r (fun a r => tm_cI (h a) (fun k f => vp_in i k ∧ tm_w M_L_law d u0 Q u S n 507 L (.int (f i.toNatClampNeg) :: r) h))) := tm_r_iaload (by decide +kernel) rfl
theorem ws_L_law_507 : tm_s M_L_law d u0 Q u S n 507 L st h = tm_gA L 0 (fun x => tm_w M_L_law d u0 Q u S n 508 L (.ref x :: st) h) := tm_r_aload_n (i := 0) (by decide +kernel) rfl rfl
theorem ws_L_law_508 : tm_s M_L_law d u0 Q u S n 508 L st h = tm_gI L 4 (fun x => tm_w M_L_law d u0 Q u S n 510 L (.int x :: st) h) := tm_r_iload (j := 4) (by decide +kernel) rfl
theorem ws_L_law_510 : tm_s M_L_law d u0 Q u S n 510 L st h = tm_w M_L_law d u0 Q u S n 511 L (.int 2 :: st) h := tm_r_iconst (k := 2) (by decide +kernel) rfl (by decide)
theorem ws_L_law_511 : tm_s M_L_law d u0 Q u S n 511 L st h = tm_p1 st (fun y r => tm_p1 r (fun x r => tm_w M_L_law d u0 Q u S n 512 L (.int (x + y) :: r) h)) := tm_r_iadd (by decide +kernel) rfl
theorem ws_L_law_512 : tm_s M_L_law d u0 Q u S n 512 L st h = tm_p1 st (fun i r => tm_pA r (fun a r => tm_cI (h a) (fun k f => vp_in i k ∧ tm_w M_L_law d u0 Q u S n 513 L (.int (f i.toNatClampNeg) :: r) h))) := tm_r_iaload (by decide +kernel) rfl
theorem ws_L_law_513 : tm_s M_L_law d u0 Q u S n 513 L st h = tm_gA L 3 (fun x => tm_w M_L_law d u0 Q u S n 514 L (.ref x :: st) h) := tm_r_aload_n (i := 3) (by decide +kernel) rfl rfl
theorem dd_L_law_514 : decode (tm_cc M_L_law) 514 = .ok (.invokestatic 111, 3) := by decide +kernel
theorem ws_L_law_514 : tm_s M_L_law d u0 Q u S n 514 L st h = tm_T M_L_law d u0 Q u 514 L st h := tm_r_invs dd_L_law_514
theorem ws_L_law_517 : tm_s M_L_law d u0 Q u S n 517 L st h = tm_p1 st (fun x r => tm_w M_L_law d u0 Q u S n 519 (L.set 5 (some (.int x))) r h) := tm_r_istore (j := 5) (by decide +kernel) rfl (by decide)
theorem ws_L_law_519 : tm_s M_L_law d u0 Q u S n 519 L st h = tm_gA L 2 (fun x => tm_w M_L_law d u0 Q u S n 520 L (.ref x :: st) h) := tm_r_aload_n (i := 2) (by decide +kernel) rfl rfl
theorem ws_L_law_520 : tm_s M_L_law d u0 Q u S n 520 L st h = tm_gA L 0 (fun x => tm_w M_L_law d u0 Q u S n 521 L (.ref x :: st) h) := tm_r_aload_n (i := 0) (by decide +kernel) rfl rfl
theorem ws_L_law_521 : tm_s M_L_law d u0 Q u S n 521 L st h = tm_gI L 4 (fun x => tm_w M_L_law d u0 Q u S n 523 L (.int x :: st) h) := tm_r_iload (j := 4) (by decide +kernel) rfl
theorem ws_L_law_523 : tm_s M_L_law d u0 Q u S n 523 L st h = tm_w M_L_law d u0 Q u S n 524 L (.int 1 :: st) h := tm_r_iconst (k := 1) (by decide +kernel) rfl (by decide)
theorem ws_L_law_524 : tm_s M_L_law d u0 Q u S n 524 L st h = tm_p1 st (fun y r => tm_p1 r (fun x r => tm_w M_L_law d u0 Q u S n 525 L (.int (x + y) :: r) h)) := tm_r_iadd (by decide +kernel) rfl
theorem ws_L_law_525 : tm_s M_L_law d u0 Q u S n 525 L st h = tm_p1 st (fun i r => tm_pA r (fun a r => tm_cI (h a) (fun k f => vp_in i k ∧ tm_w M_L_law d u0 Q u S n 526 L (.int (f i.toNatClampNeg) :: r) h))) := tm_r_iaload (by decide +kernel) rfl
theorem ws_L_law_526 : tm_s M_L_law d u0 Q u S n 526 L st h = tm_gA L 0 (fun x => tm_w M_L_law d u0 Q u S n 527 L (.ref x :: st) h) := tm_r_aload_n (i := 0) (by decide +kernel) rfl rfl
theorem ws_L_law_527 : tm_s M_L_law d u0 Q u S n 527 L st h = tm_gI L 4 (fun x => tm_w M_L_law d u0 Q u S n 529 L (.int x :: st) h) := tm_r_iload (j := 4) (by decide +kernel) rfl
theorem ws_L_law_529 : tm_s M_L_law d u0 Q u S n 529 L st h = tm_w M_L_law d u0 Q u S n 530 L (.int 2 :: st) h := tm_r_iconst (k := 2) (by decide +kernel) rfl (by decide)
theorem ws_L_law_530 : tm_s M_L_law d u0 Q u S n 530 L st h = tm_p1 st (fun y r => tm_p1 r (fun x r => tm_w M_L_law d u0 Q u S n 531 L (.int (x + y) :: r) h)) := tm_r_iadd (by decide +kernel) rfl
theorem ws_L_law_531 : tm_s M_L_law d u0 Q u S n 531 L st h = tm_p1 st (fun i r => tm_pA r (fun a r => tm_cI (h a) (fun k f => vp_in i k ∧ tm_w M_L_law d u0 Q u S n 532 L (.int (f i.toNatClampNeg) :: r) h))) := tm_r_iaload (by decide +kernel) rfl
theorem dd_L_law_532 : decode (tm_cc M_L_law) 532 = .ok (.invokevirtual 113, 3) := by decide +kernel
theorem ws_L_law_532 : tm_s M_L_law d u0 Q u S n 532 L st h = tm_T M_L_law d u0 Q u 532 L st h := tm_r_invv dd_L_law_532
theorem ws_L_law_535 : tm_s M_L_law d u0 Q u S n 535 L st h = tm_p1 st (fun x r => tm_w M_L_law d u0 Q u S n 537 (L.set 6 (some (.int x))) r h) := tm_r_istore (j := 6) (by decide +kernel) rfl (by decide)
theorem ws_L_law_537 : tm_s M_L_law d u0 Q u S n 537 L st h = tm_gA L 2 (fun x => tm_w M_L_law d u0 Q u S n 538 L (.ref x :: st) h) := tm_r_aload_n (i := 2) (by decide +kernel) rfl rfl
theorem dd_L_law_538 : decode (tm_cc M_L_law) 538 = .ok (.invokevirtual 93, 3) := by decide +kernel
theorem ws_L_law_538 : tm_s M_L_law d u0 Q u S n 538 L st h = tm_T M_L_law d u0 Q u 538 L st h := tm_r_invv dd_L_law_538
theorem ws_L_law_541 : tm_s M_L_law d u0 Q u S n 541 L st h = tm_gI L 5 (fun x => tm_w M_L_law d u0 Q u S n 543 L (.int x :: st) h) := tm_r_iload (j := 5) (by decide +kernel) rfl
theorem ws_L_law_543 : tm_s M_L_law d u0 Q u S n 543 L st h = tm_p1 st (fun y r => tm_p1 r (fun x r => (x = y → tm_w M_L_law d u0 Q u S n 548 L r h) ∧ (¬ x = y → tm_w M_L_law d u0 Q u S n 546 L r h))) := tm_r_iceq (off := 5) (by decide +kernel) rfl rfl
theorem ws_L_law_546 : tm_s M_L_law d u0 Q u S n 546 L st h = tm_w M_L_law d u0 Q u S n 547 L (.int 0 :: st) h := tm_r_iconst (k := 0) (by decide +kernel) rfl (by decide)
theorem ws_L_law_547 : tm_s M_L_law d u0 Q u S n 547 L st h = tm_p1 st (fun x r => r = [] ∧ (x = 0 ∨ x = 1) ∧ Q (.inl (some (.int x))) h) := tm_r_zret (by decide +kernel) rfl
theorem ws_L_law_548 : tm_s M_L_law d u0 Q u S n 548 L st h = tm_gI L 5 (fun x => tm_w M_L_law d u0 Q u S n 550 L (.int x :: st) h) := tm_r_iload (j := 5) (by decide +kernel) rfl
theorem ws_L_law_550 : tm_s M_L_law d u0 Q u S n 550 L st h = tm_p1 st (fun x r => (¬ x = 0 → tm_w M_L_law d u0 Q u S n 565 L r h) ∧ (¬ ¬ x = 0 → tm_w M_L_law d u0 Q u S n 553 L r h)) := tm_r_ifne (off := 15) (by decide +kernel) rfl rfl
theorem ws_L_law_553 : tm_s M_L_law d u0 Q u S n 553 L st h = tm_gA L 3 (fun x => tm_w M_L_law d u0 Q u S n 554 L (.ref x :: st) h) := tm_r_aload_n (i := 3) (by decide +kernel) rfl rfl
theorem ws_L_law_554 : tm_s M_L_law d u0 Q u S n 554 L st h = tm_w M_L_law d u0 Q u S n 555 L (.int 0 :: st) h := tm_r_iconst (k := 0) (by decide +kernel) rfl (by decide)
theorem ws_L_law_555 : tm_s M_L_law d u0 Q u S n 555 L st h = tm_p1 st (fun i r => tm_pA r (fun a r => tm_cJ (h a) (fun k f => vp_in i k ∧ tm_w M_L_law d u0 Q u S n 556 L (.long (f i.toNatClampNeg) :: r) h))) := tm_r_laload (by decide +kernel) rfl
theorem ws_L_law_556 : tm_s M_L_law d u0 Q u S n 556 L st h = tm_gI L 6 (fun x => tm_w M_L_law d u0 Q u S n 558 L (.int x :: st) h) := tm_r_iload (j := 6) (by decide +kernel) rfl
theorem ws_L_law_558 : tm_s M_L_law d u0 Q u S n 558 L st h = tm_p1 st (fun x r => tm_w M_L_law d u0 Q u S n 559 L (.long x.toInt64 :: r) h) := tm_r_i2l (by decide +kernel) rfl
theorem ws_L_law_559 : tm_s M_L_law d u0 Q u S n 559 L st h = tm_pJ st (fun y r => tm_pJ r (fun x r => tm_w M_L_law d u0 Q u S n 560 L (.int (lg_cmp x y) :: r) h)) := tm_r_lcmp (by decide +kernel) rfl
theorem ws_L_law_560 : tm_s M_L_law d u0 Q u S n 560 L st h = tm_p1 st (fun x r => (x = 0 → tm_w M_L_law d u0 Q u S n 565 L r h) ∧ (¬ x = 0 → tm_w M_L_law d u0 Q u S n 563 L r h)) := tm_r_ifeq (off := 5) (by decide +kernel) rfl rfl
theorem ws_L_law_563 : tm_s M_L_law d u0 Q u S n 563 L st h = tm_w M_L_law d u0 Q u S n 564 L (.int 0 :: st) h := tm_r_iconst (k := 0) (by decide +kernel) rfl (by decide)
theorem ws_L_law_564 : tm_s M_L_law d u0 Q u S n 564 L st h = tm_p1 st (fun x r => r = [] ∧ (x = 0 ∨ x = 1) ∧ Q (.inl (some (.int x))) h) := tm_r_zret (by decide +kernel) rfl
theorem ws_L_law_565 : tm_s M_L_law d u0 Q u S n 565 L st h = tm_w M_L_law d u0 Q u S n 1554 L st h := tm_r_goto (off := 989) (by decide +kernel) rfl
theorem ws_L_law_568 : tm_s M_L_law d u0 Q u S n 568 L st h = tm_gA L 1 (fun x => tm_w M_L_law d u0 Q u S n 569 L (.ref x :: st) h) := tm_r_aload_n (i := 1) (by decide +kernel) rfl rfl
theorem ws_L_law_569 : tm_s M_L_law d u0 Q u S n 569 L st h = tm_gA L 0 (fun x => tm_w M_L_law d u0 Q u S n 570 L (.ref x :: st) h) := tm_r_aload_n (i := 0) (by decide +kernel) rfl rfl
theorem ws_L_law_570 : tm_s M_L_law d u0 Q u S n 570 L st h = tm_gI L 4 (fun x => tm_w M_L_law d u0 Q u S n 572 L (.int x :: st) h) := tm_r_iload (j := 4) (by decide +kernel) rfl
theorem ws_L_law_572 : tm_s M_L_law d u0 Q u S n 572 L st h = tm_w M_L_law d u0 Q u S n 573 L (.int 1 :: st) h := tm_r_iconst (k := 1) (by decide +kernel) rfl (by decide)
theorem ws_L_law_573 : tm_s M_L_law d u0 Q u S n 573 L st h = tm_p1 st (fun y r => tm_p1 r (fun x r => tm_w M_L_law d u0 Q u S n 574 L (.int (x + y) :: r) h)) := tm_r_iadd (by decide +kernel) rfl
theorem ws_L_law_574 : tm_s M_L_law d u0 Q u S n 574 L st h = tm_p1 st (fun i r => tm_pA r (fun a r => tm_cI (h a) (fun k f => vp_in i k ∧ tm_w M_L_law d u0 Q u S n 575 L (.int (f i.toNatClampNeg) :: r) h))) := tm_r_iaload (by decide +kernel) rfl
theorem ws_L_law_575 : tm_s M_L_law d u0 Q u S n 575 L st h = tm_gA L 3 (fun x => tm_w M_L_law d u0 Q u S n 576 L (.ref x :: st) h) := tm_r_aload_n (i := 3) (by decide +kernel) rfl rfl
theorem dd_L_law_576 : decode (tm_cc M_L_law) 576 = .ok (.invokestatic 114, 3) := by decide +kernel
theorem ws_L_law_576 : tm_s M_L_law d u0 Q u S n 576 L st h = tm_T M_L_law d u0 Q u 576 L st h := tm_r_invs dd_L_law_576
theorem ws_L_law_579 : tm_s M_L_law d u0 Q u S n 579 L st h = tm_p1 st (fun x r => tm_w M_L_law d u0 Q u S n 581 (L.set 5 (some (.int x))) r h) := tm_r_istore (j := 5) (by decide +kernel) rfl (by decide)
theorem ws_L_law_581 : tm_s M_L_law d u0 Q u S n 581 L st h = tm_gA L 2 (fun x => tm_w M_L_law d u0 Q u S n 582 L (.ref x :: st) h) := tm_r_aload_n (i := 2) (by decide +kernel) rfl rfl
theorem ws_L_law_582 : tm_s M_L_law d u0 Q u S n 582 L st h = tm_gA L 0 (fun x => tm_w M_L_law d u0 Q u S n 583 L (.ref x :: st) h) := tm_r_aload_n (i := 0) (by decide +kernel) rfl rfl
theorem ws_L_law_583 : tm_s M_L_law d u0 Q u S n 583 L st h = tm_gI L 4 (fun x => tm_w M_L_law d u0 Q u S n 585 L (.int x :: st) h) := tm_r_iload (j := 4) (by decide +kernel) rfl
theorem ws_L_law_585 : tm_s M_L_law d u0 Q u S n 585 L st h = tm_w M_L_law d u0 Q u S n 586 L (.int 1 :: st) h := tm_r_iconst (k := 1) (by decide +kernel) rfl (by decide)
theorem ws_L_law_586 : tm_s M_L_law d u0 Q u S n 586 L st h = tm_p1 st (fun y r => tm_p1 r (fun x r => tm_w M_L_law d u0 Q u S n 587 L (.int (x + y) :: r) h)) := tm_r_iadd (by decide +kernel) rfl
theorem ws_L_law_587 : tm_s M_L_law d u0 Q u S n 587 L st h = tm_p1 st (fun i r => tm_pA r (fun a r => tm_cI (h a) (fun k f => vp_in i k ∧ tm_w M_L_law d u0 Q u S n 588 L (.int (f i.toNatClampNeg) :: r) h))) := tm_r_iaload (by decide +kernel) rfl
theorem dd_L_law_588 : decode (tm_cc M_L_law) 588 = .ok (.invokevirtual 116, 3) := by decide +kernel
theorem ws_L_law_588 : tm_s M_L_law d u0 Q u S n 588 L st h = tm_T M_L_law d u0 Q u 588 L st h := tm_r_invv dd_L_law_588
theorem ws_L_law_591 : tm_s M_L_law d u0 Q u S n 591 L st h = tm_p1 st (fun x r => tm_w M_L_law d u0 Q u S n 593 (L.set 6 (some (.int x))) r h) := tm_r_istore (j := 6) (by decide +kernel) rfl (by decide)
theorem ws_L_law_593 : tm_s M_L_law d u0 Q u S n 593 L st h = tm_gA L 2 (fun x => tm_w M_L_law d u0 Q u S n 594 L (.ref x :: st) h) := tm_r_aload_n (i := 2) (by decide +kernel) rfl rfl
theorem dd_L_law_594 : decode (tm_cc M_L_law) 594 = .ok (.invokevirtual 93, 3) := by decide +kernel
theorem ws_L_law_594 : tm_s M_L_law d u0 Q u S n 594 L st h = tm_T M_L_law d u0 Q u 594 L st h := tm_r_invv dd_L_law_594
theorem ws_L_law_597 : tm_s M_L_law d u0 Q u S n 597 L st h = tm_gI L 5 (fun x => tm_w M_L_law d u0 Q u S n 599 L (.int x :: st) h) := tm_r_iload (j := 5) (by decide +kernel) rfl
theorem ws_L_law_599 : tm_s M_L_law d u0 Q u S n 599 L st h = tm_p1 st (fun y r => tm_p1 r (fun x r => (x = y → tm_w M_L_law d u0 Q u S n 604 L r h) ∧ (¬ x = y → tm_w M_L_law d u0 Q u S n 602 L r h))) := tm_r_iceq (off := 5) (by decide +kernel) rfl rfl
theorem ws_L_law_602 : tm_s M_L_law d u0 Q u S n 602 L st h = tm_w M_L_law d u0 Q u S n 603 L (.int 0 :: st) h := tm_r_iconst (k := 0) (by decide +kernel) rfl (by decide)
theorem ws_L_law_603 : tm_s M_L_law d u0 Q u S n 603 L st h = tm_p1 st (fun x r => r = [] ∧ (x = 0 ∨ x = 1) ∧ Q (.inl (some (.int x))) h) := tm_r_zret (by decide +kernel) rfl
theorem ws_L_law_604 : tm_s M_L_law d u0 Q u S n 604 L st h = tm_gI L 5 (fun x => tm_w M_L_law d u0 Q u S n 606 L (.int x :: st) h) := tm_r_iload (j := 5) (by decide +kernel) rfl
theorem ws_L_law_606 : tm_s M_L_law d u0 Q u S n 606 L st h = tm_p1 st (fun x r => (¬ x = 0 → tm_w M_L_law d u0 Q u S n 621 L r h) ∧ (¬ ¬ x = 0 → tm_w M_L_law d u0 Q u S n 609 L r h)) := tm_r_ifne (off := 15) (by decide +kernel) rfl rfl
theorem ws_L_law_609 : tm_s M_L_law d u0 Q u S n 609 L st h = tm_gA L 3 (fun x => tm_w M_L_law d u0 Q u S n 610 L (.ref x :: st) h) := tm_r_aload_n (i := 3) (by decide +kernel) rfl rfl
theorem ws_L_law_610 : tm_s M_L_law d u0 Q u S n 610 L st h = tm_w M_L_law d u0 Q u S n 611 L (.int 0 :: st) h := tm_r_iconst (k := 0) (by decide +kernel) rfl (by decide)
theorem ws_L_law_611 : tm_s M_L_law d u0 Q u S n 611 L st h = tm_p1 st (fun i r => tm_pA r (fun a r => tm_cJ (h a) (fun k f => vp_in i k ∧ tm_w M_L_law d u0 Q u S n 612 L (.long (f i.toNatClampNeg) :: r) h))) := tm_r_laload (by decide +kernel) rfl
theorem ws_L_law_612 : tm_s M_L_law d u0 Q u S n 612 L st h = tm_gI L 6 (fun x => tm_w M_L_law d u0 Q u S n 614 L (.int x :: st) h) := tm_r_iload (j := 6) (by decide +kernel) rfl
theorem ws_L_law_614 : tm_s M_L_law d u0 Q u S n 614 L st h = tm_p1 st (fun x r => tm_w M_L_law d u0 Q u S n 615 L (.long x.toInt64 :: r) h) := tm_r_i2l (by decide +kernel) rfl
theorem ws_L_law_615 : tm_s M_L_law d u0 Q u S n 615 L st h = tm_pJ st (fun y r => tm_pJ r (fun x r => tm_w M_L_law d u0 Q u S n 616 L (.int (lg_cmp x y) :: r) h)) := tm_r_lcmp (by decide +kernel) rfl
theorem ws_L_law_616 : tm_s M_L_law d u0 Q u S n 616 L st h = tm_p1 st (fun x r => (x = 0 → tm_w M_L_law d u0 Q u S n 621 L r h) ∧ (¬ x = 0 → tm_w M_L_law d u0 Q u S n 619 L r h)) := tm_r_ifeq (off := 5) (by decide +kernel) rfl rfl
theorem ws_L_law_619 : tm_s M_L_law d u0 Q u S n 619 L st h = tm_w M_L_law d u0 Q u S n 620 L (.int 0 :: st) h := tm_r_iconst (k := 0) (by decide +kernel) rfl (by decide)
theorem ws_L_law_620 : tm_s M_L_law d u0 Q u S n 620 L st h = tm_p1 st (fun x r => r = [] ∧ (x = 0 ∨ x = 1) ∧ Q (.inl (some (.int x))) h) := tm_r_zret (by decide +kernel) rfl
theorem ws_L_law_621 : tm_s M_L_law d u0 Q u S n 621 L st h = tm_w M_L_law d u0 Q u S n 1554 L st h := tm_r_goto (off := 933) (by decide +kernel) rfl
theorem ws_L_law_624 : tm_s M_L_law d u0 Q u S n 624 L st h = tm_gA L 1 (fun x => tm_w M_L_law d u0 Q u S n 625 L (.ref x :: st) h) := tm_r_aload_n (i := 1) (by decide +kernel) rfl rfl
theorem ws_L_law_625 : tm_s M_L_law d u0 Q u S n 625 L st h = tm_gA L 0 (fun x => tm_w M_L_law d u0 Q u S n 626 L (.ref x :: st) h) := tm_r_aload_n (i := 0) (by decide +kernel) rfl rfl
theorem ws_L_law_626 : tm_s M_L_law d u0 Q u S n 626 L st h = tm_gI L 4 (fun x => tm_w M_L_law d u0 Q u S n 628 L (.int x :: st) h) := tm_r_iload (j := 4) (by decide +kernel) rfl
theorem ws_L_law_628 : tm_s M_L_law d u0 Q u S n 628 L st h = tm_w M_L_law d u0 Q u S n 629 L (.int 1 :: st) h := tm_r_iconst (k := 1) (by decide +kernel) rfl (by decide)
theorem ws_L_law_629 : tm_s M_L_law d u0 Q u S n 629 L st h = tm_p1 st (fun y r => tm_p1 r (fun x r => tm_w M_L_law d u0 Q u S n 630 L (.int (x + y) :: r) h)) := tm_r_iadd (by decide +kernel) rfl
theorem ws_L_law_630 : tm_s M_L_law d u0 Q u S n 630 L st h = tm_p1 st (fun i r => tm_pA r (fun a r => tm_cI (h a) (fun k f => vp_in i k ∧ tm_w M_L_law d u0 Q u S n 631 L (.int (f i.toNatClampNeg) :: r) h))) := tm_r_iaload (by decide +kernel) rfl
theorem ws_L_law_631 : tm_s M_L_law d u0 Q u S n 631 L st h = tm_gA L 3 (fun x => tm_w M_L_law d u0 Q u S n 632 L (.ref x :: st) h) := tm_r_aload_n (i := 3) (by decide +kernel) rfl rfl
theorem dd_L_law_632 : decode (tm_cc M_L_law) 632 = .ok (.invokestatic 117, 3) := by decide +kernel
theorem ws_L_law_632 : tm_s M_L_law d u0 Q u S n 632 L st h = tm_T M_L_law d u0 Q u 632 L st h := tm_r_invs dd_L_law_632
theorem ws_L_law_635 : tm_s M_L_law d u0 Q u S n 635 L st h = tm_p1 st (fun x r => tm_w M_L_law d u0 Q u S n 637 (L.set 5 (some (.int x))) r h) := tm_r_istore (j := 5) (by decide +kernel) rfl (by decide)
theorem ws_L_law_637 : tm_s M_L_law d u0 Q u S n 637 L st h = tm_gA L 2 (fun x => tm_w M_L_law d u0 Q u S n 638 L (.ref x :: st) h) := tm_r_aload_n (i := 2) (by decide +kernel) rfl rfl
theorem ws_L_law_638 : tm_s M_L_law d u0 Q u S n 638 L st h = tm_gA L 0 (fun x => tm_w M_L_law d u0 Q u S n 639 L (.ref x :: st) h) := tm_r_aload_n (i := 0) (by decide +kernel) rfl rfl
theorem ws_L_law_639 : tm_s M_L_law d u0 Q u S n 639 L st h = tm_gI L 4 (fun x => tm_w M_L_law d u0 Q u S n 641 L (.int x :: st) h) := tm_r_iload (j := 4) (by decide +kernel) rfl
theorem ws_L_law_641 : tm_s M_L_law d u0 Q u S n 641 L st h = tm_w M_L_law d u0 Q u S n 642 L (.int 1 :: st) h := tm_r_iconst (k := 1) (by decide +kernel) rfl (by decide)
theorem ws_L_law_642 : tm_s M_L_law d u0 Q u S n 642 L st h = tm_p1 st (fun y r => tm_p1 r (fun x r => tm_w M_L_law d u0 Q u S n 643 L (.int (x + y) :: r) h)) := tm_r_iadd (by decide +kernel) rfl
theorem ws_L_law_643 : tm_s M_L_law d u0 Q u S n 643 L st h = tm_p1 st (fun i r => tm_pA r (fun a r => tm_cI (h a) (fun k f => vp_in i k ∧ tm_w M_L_law d u0 Q u S n 644 L (.int (f i.toNatClampNeg) :: r) h))) := tm_r_iaload (by decide +kernel) rfl
theorem dd_L_law_644 : decode (tm_cc M_L_law) 644 = .ok (.invokevirtual 119, 3) := by decide +kernel
theorem ws_L_law_644 : tm_s M_L_law d u0 Q u S n 644 L st h = tm_T M_L_law d u0 Q u 644 L st h := tm_r_invv dd_L_law_644
theorem ws_L_law_647 : tm_s M_L_law d u0 Q u S n 647 L st h = tm_p1 st (fun x r => tm_w M_L_law d u0 Q u S n 649 (L.set 6 (some (.int x))) r h) := tm_r_istore (j := 6) (by decide +kernel) rfl (by decide)
theorem ws_L_law_649 : tm_s M_L_law d u0 Q u S n 649 L st h = tm_gA L 2 (fun x => tm_w M_L_law d u0 Q u S n 650 L (.ref x :: st) h) := tm_r_aload_n (i := 2) (by decide +kernel) rfl rfl
theorem dd_L_law_650 : decode (tm_cc M_L_law) 650 = .ok (.invokevirtual 93, 3) := by decide +kernel
theorem ws_L_law_650 : tm_s M_L_law d u0 Q u S n 650 L st h = tm_T M_L_law d u0 Q u 650 L st h := tm_r_invv dd_L_law_650
theorem ws_L_law_653 : tm_s M_L_law d u0 Q u S n 653 L st h = tm_gI L 5 (fun x => tm_w M_L_law d u0 Q u S n 655 L (.int x :: st) h) := tm_r_iload (j := 5) (by decide +kernel) rfl
theorem ws_L_law_655 : tm_s M_L_law d u0 Q u S n 655 L st h = tm_p1 st (fun y r => tm_p1 r (fun x r => (x = y → tm_w M_L_law d u0 Q u S n 660 L r h) ∧ (¬ x = y → tm_w M_L_law d u0 Q u S n 658 L r h))) := tm_r_iceq (off := 5) (by decide +kernel) rfl rfl
theorem ws_L_law_658 : tm_s M_L_law d u0 Q u S n 658 L st h = tm_w M_L_law d u0 Q u S n 659 L (.int 0 :: st) h := tm_r_iconst (k := 0) (by decide +kernel) rfl (by decide)
theorem ws_L_law_659 : tm_s M_L_law d u0 Q u S n 659 L st h = tm_p1 st (fun x r => r = [] ∧ (x = 0 ∨ x = 1) ∧ Q (.inl (some (.int x))) h) := tm_r_zret (by decide +kernel) rfl
theorem ws_L_law_660 : tm_s M_L_law d u0 Q u S n 660 L st h = tm_gI L 5 (fun x => tm_w M_L_law d u0 Q u S n 662 L (.int x :: st) h) := tm_r_iload (j := 5) (by decide +kernel) rfl
theorem ws_L_law_662 : tm_s M_L_law d u0 Q u S n 662 L st h = tm_p1 st (fun x r => (¬ x = 0 → tm_w M_L_law d u0 Q u S n 677 L r h) ∧ (¬ ¬ x = 0 → tm_w M_L_law d u0 Q u S n 665 L r h)) := tm_r_ifne (off := 15) (by decide +kernel) rfl rfl
theorem ws_L_law_665 : tm_s M_L_law d u0 Q u S n 665 L st h = tm_gA L 3 (fun x => tm_w M_L_law d u0 Q u S n 666 L (.ref x :: st) h) := tm_r_aload_n (i := 3) (by decide +kernel) rfl rfl
theorem ws_L_law_666 : tm_s M_L_law d u0 Q u S n 666 L st h = tm_w M_L_law d u0 Q u S n 667 L (.int 0 :: st) h := tm_r_iconst (k := 0) (by decide +kernel) rfl (by decide)
theorem ws_L_law_667 : tm_s M_L_law d u0 Q u S n 667 L st h = tm_p1 st (fun i r => tm_pA r (fun a r => tm_cJ (h a) (fun k f => vp_in i k ∧ tm_w M_L_law d u0 Q u S n 668 L (.long (f i.toNatClampNeg) :: r) h))) := tm_r_laload (by decide +kernel) rfl
theorem ws_L_law_668 : tm_s M_L_law d u0 Q u S n 668 L st h = tm_gI L 6 (fun x => tm_w M_L_law d u0 Q u S n 670 L (.int x :: st) h) := tm_r_iload (j := 6) (by decide +kernel) rfl
theorem ws_L_law_670 : tm_s M_L_law d u0 Q u S n 670 L st h = tm_p1 st (fun x r => tm_w M_L_law d u0 Q u S n 671 L (.long x.toInt64 :: r) h) := tm_r_i2l (by decide +kernel) rfl
theorem ws_L_law_671 : tm_s M_L_law d u0 Q u S n 671 L st h = tm_pJ st (fun y r => tm_pJ r (fun x r => tm_w M_L_law d u0 Q u S n 672 L (.int (lg_cmp x y) :: r) h)) := tm_r_lcmp (by decide +kernel) rfl
theorem ws_L_law_672 : tm_s M_L_law d u0 Q u S n 672 L st h = tm_p1 st (fun x r => (x = 0 → tm_w M_L_law d u0 Q u S n 677 L r h) ∧ (¬ x = 0 → tm_w M_L_law d u0 Q u S n 675 L r h)) := tm_r_ifeq (off := 5) (by decide +kernel) rfl rfl
theorem ws_L_law_675 : tm_s M_L_law d u0 Q u S n 675 L st h = tm_w M_L_law d u0 Q u S n 676 L (.int 0 :: st) h := tm_r_iconst (k := 0) (by decide +kernel) rfl (by decide)
theorem ws_L_law_676 : tm_s M_L_law d u0 Q u S n 676 L st h = tm_p1 st (fun x r => r = [] ∧ (x = 0 ∨ x = 1) ∧ Q (.inl (some (.int x))) h) := tm_r_zret (by decide +kernel) rfl
theorem ws_L_law_677 : tm_s M_L_law d u0 Q u S n 677 L st h = tm_w M_L_law d u0 Q u S n 1554 L st h := tm_r_goto (off := 877) (by decide +kernel) rfl
theorem ws_L_law_680 : tm_s M_L_law d u0 Q u S n 680 L st h = tm_gA L 1 (fun x => tm_w M_L_law d u0 Q u S n 681 L (.ref x :: st) h) := tm_r_aload_n (i := 1) (by decide +kernel) rfl rfl
theorem ws_L_law_681 : tm_s M_L_law d u0 Q u S n 681 L st h = tm_gA L 0 (fun x => tm_w M_L_law d u0 Q u S n 682 L (.ref x :: st) h) := tm_r_aload_n (i := 0) (by decide +kernel) rfl rfl
theorem ws_L_law_682 : tm_s M_L_law d u0 Q u S n 682 L st h = tm_gI L 4 (fun x => tm_w M_L_law d u0 Q u S n 684 L (.int x :: st) h) := tm_r_iload (j := 4) (by decide +kernel) rfl
theorem ws_L_law_684 : tm_s M_L_law d u0 Q u S n 684 L st h = tm_w M_L_law d u0 Q u S n 685 L (.int 1 :: st) h := tm_r_iconst (k := 1) (by decide +kernel) rfl (by decide)
theorem ws_L_law_685 : tm_s M_L_law d u0 Q u S n 685 L st h = tm_p1 st (fun y r => tm_p1 r (fun x r => tm_w M_L_law d u0 Q u S n 686 L (.int (x + y) :: r) h)) := tm_r_iadd (by decide +kernel) rfl
theorem ws_L_law_686 : tm_s M_L_law d u0 Q u S n 686 L st h = tm_p1 st (fun i r => tm_pA r (fun a r => tm_cI (h a) (fun k f => vp_in i k ∧ tm_w M_L_law d u0 Q u S n 687 L (.int (f i.toNatClampNeg) :: r) h))) := tm_r_iaload (by decide +kernel) rfl
theorem ws_L_law_687 : tm_s M_L_law d u0 Q u S n 687 L st h = tm_gA L 3 (fun x => tm_w M_L_law d u0 Q u S n 688 L (.ref x :: st) h) := tm_r_aload_n (i := 3) (by decide +kernel) rfl rfl
theorem dd_L_law_688 : decode (tm_cc M_L_law) 688 = .ok (.invokestatic 120, 3) := by decide +kernel
theorem ws_L_law_688 : tm_s M_L_law d u0 Q u S n 688 L st h = tm_T M_L_law d u0 Q u 688 L st h := tm_r_invs dd_L_law_688
theorem ws_L_law_691 : tm_s M_L_law d u0 Q u S n 691 L st h = tm_p1 st (fun x r => tm_w M_L_law d u0 Q u S n 693 (L.set 5 (some (.int x))) r h) := tm_r_istore (j := 5) (by decide +kernel) rfl (by decide)
theorem ws_L_law_693 : tm_s M_L_law d u0 Q u S n 693 L st h = tm_gA L 2 (fun x => tm_w M_L_law d u0 Q u S n 694 L (.ref x :: st) h) := tm_r_aload_n (i := 2) (by decide +kernel) rfl rfl
theorem ws_L_law_694 : tm_s M_L_law d u0 Q u S n 694 L st h = tm_gA L 0 (fun x => tm_w M_L_law d u0 Q u S n 695 L (.ref x :: st) h) := tm_r_aload_n (i := 0) (by decide +kernel) rfl rfl
theorem ws_L_law_695 : tm_s M_L_law d u0 Q u S n 695 L st h = tm_gI L 4 (fun x => tm_w M_L_law d u0 Q u S n 697 L (.int x :: st) h) := tm_r_iload (j := 4) (by decide +kernel) rfl
theorem ws_L_law_697 : tm_s M_L_law d u0 Q u S n 697 L st h = tm_w M_L_law d u0 Q u S n 698 L (.int 1 :: st) h := tm_r_iconst (k := 1) (by decide +kernel) rfl (by decide)
theorem ws_L_law_698 : tm_s M_L_law d u0 Q u S n 698 L st h = tm_p1 st (fun y r => tm_p1 r (fun x r => tm_w M_L_law d u0 Q u S n 699 L (.int (x + y) :: r) h)) := tm_r_iadd (by decide +kernel) rfl
theorem ws_L_law_699 : tm_s M_L_law d u0 Q u S n 699 L st h = tm_p1 st (fun i r => tm_pA r (fun a r => tm_cI (h a) (fun k f => vp_in i k ∧ tm_w M_L_law d u0 Q u S n 700 L (.int (f i.toNatClampNeg) :: r) h))) := tm_r_iaload (by decide +kernel) rfl
theorem dd_L_law_700 : decode (tm_cc M_L_law) 700 = .ok (.invokevirtual 122, 3) := by decide +kernel
theorem ws_L_law_700 : tm_s M_L_law d u0 Q u S n 700 L st h = tm_T M_L_law d u0 Q u 700 L st h := tm_r_invv dd_L_law_700
theorem ws_L_law_703 : tm_s M_L_law d u0 Q u S n 703 L st h = tm_p1 st (fun x r => tm_w M_L_law d u0 Q u S n 705 (L.set 6 (some (.int x))) r h) := tm_r_istore (j := 6) (by decide +kernel) rfl (by decide)
theorem ws_L_law_705 : tm_s M_L_law d u0 Q u S n 705 L st h = tm_gA L 2 (fun x => tm_w M_L_law d u0 Q u S n 706 L (.ref x :: st) h) := tm_r_aload_n (i := 2) (by decide +kernel) rfl rfl
theorem dd_L_law_706 : decode (tm_cc M_L_law) 706 = .ok (.invokevirtual 93, 3) := by decide +kernel
theorem ws_L_law_706 : tm_s M_L_law d u0 Q u S n 706 L st h = tm_T M_L_law d u0 Q u 706 L st h := tm_r_invv dd_L_law_706
theorem ws_L_law_709 : tm_s M_L_law d u0 Q u S n 709 L st h = tm_gI L 5 (fun x => tm_w M_L_law d u0 Q u S n 711 L (.int x :: st) h) := tm_r_iload (j := 5) (by decide +kernel) rfl
theorem ws_L_law_711 : tm_s M_L_law d u0 Q u S n 711 L st h = tm_p1 st (fun y r => tm_p1 r (fun x r => (x = y → tm_w M_L_law d u0 Q u S n 716 L r h) ∧ (¬ x = y → tm_w M_L_law d u0 Q u S n 714 L r h))) := tm_r_iceq (off := 5) (by decide +kernel) rfl rfl
theorem ws_L_law_714 : tm_s M_L_law d u0 Q u S n 714 L st h = tm_w M_L_law d u0 Q u S n 715 L (.int 0 :: st) h := tm_r_iconst (k := 0) (by decide +kernel) rfl (by decide)
theorem ws_L_law_715 : tm_s M_L_law d u0 Q u S n 715 L st h = tm_p1 st (fun x r => r = [] ∧ (x = 0 ∨ x = 1) ∧ Q (.inl (some (.int x))) h) := tm_r_zret (by decide +kernel) rfl
theorem ws_L_law_716 : tm_s M_L_law d u0 Q u S n 716 L st h = tm_gI L 5 (fun x => tm_w M_L_law d u0 Q u S n 718 L (.int x :: st) h) := tm_r_iload (j := 5) (by decide +kernel) rfl
theorem ws_L_law_718 : tm_s M_L_law d u0 Q u S n 718 L st h = tm_p1 st (fun x r => (¬ x = 0 → tm_w M_L_law d u0 Q u S n 733 L r h) ∧ (¬ ¬ x = 0 → tm_w M_L_law d u0 Q u S n 721 L r h)) := tm_r_ifne (off := 15) (by decide +kernel) rfl rfl
theorem ws_L_law_721 : tm_s M_L_law d u0 Q u S n 721 L st h = tm_gA L 3 (fun x => tm_w M_L_law d u0 Q u S n 722 L (.ref x :: st) h) := tm_r_aload_n (i := 3) (by decide +kernel) rfl rfl
theorem ws_L_law_722 : tm_s M_L_law d u0 Q u S n 722 L st h = tm_w M_L_law d u0 Q u S n 723 L (.int 0 :: st) h := tm_r_iconst (k := 0) (by decide +kernel) rfl (by decide)
theorem ws_L_law_723 : tm_s M_L_law d u0 Q u S n 723 L st h = tm_p1 st (fun i r => tm_pA r (fun a r => tm_cJ (h a) (fun k f => vp_in i k ∧ tm_w M_L_law d u0 Q u S n 724 L (.long (f i.toNatClampNeg) :: r) h))) := tm_r_laload (by decide +kernel) rfl
theorem ws_L_law_724 : tm_s M_L_law d u0 Q u S n 724 L st h = tm_gI L 6 (fun x => tm_w M_L_law d u0 Q u S n 726 L (.int x :: st) h) := tm_r_iload (j := 6) (by decide +kernel) rfl
theorem ws_L_law_726 : tm_s M_L_law d u0 Q u S n 726 L st h = tm_p1 st (fun x r => tm_w M_L_law d u0 Q u S n 727 L (.long x.toInt64 :: r) h) := tm_r_i2l (by decide +kernel) rfl
theorem ws_L_law_727 : tm_s M_L_law d u0 Q u S n 727 L st h = tm_pJ st (fun y r => tm_pJ r (fun x r => tm_w M_L_law d u0 Q u S n 728 L (.int (lg_cmp x y) :: r) h)) := tm_r_lcmp (by decide +kernel) rfl
theorem ws_L_law_728 : tm_s M_L_law d u0 Q u S n 728 L st h = tm_p1 st (fun x r => (x = 0 → tm_w M_L_law d u0 Q u S n 733 L r h) ∧ (¬ x = 0 → tm_w M_L_law d u0 Q u S n 731 L r h)) := tm_r_ifeq (off := 5) (by decide +kernel) rfl rfl
theorem ws_L_law_731 : tm_s M_L_law d u0 Q u S n 731 L st h = tm_w M_L_law d u0 Q u S n 732 L (.int 0 :: st) h := tm_r_iconst (k := 0) (by decide +kernel) rfl (by decide)
theorem ws_L_law_732 : tm_s M_L_law d u0 Q u S n 732 L st h = tm_p1 st (fun x r => r = [] ∧ (x = 0 ∨ x = 1) ∧ Q (.inl (some (.int x))) h) := tm_r_zret (by decide +kernel) rfl
theorem ws_L_law_733 : tm_s M_L_law d u0 Q u S n 733 L st h = tm_w M_L_law d u0 Q u S n 1554 L st h := tm_r_goto (off := 821) (by decide +kernel) rfl
theorem ws_L_law_736 : tm_s M_L_law d u0 Q u S n 736 L st h = tm_gA L 1 (fun x => tm_w M_L_law d u0 Q u S n 737 L (.ref x :: st) h) := tm_r_aload_n (i := 1) (by decide +kernel) rfl rfl
theorem ws_L_law_737 : tm_s M_L_law d u0 Q u S n 737 L st h = tm_gA L 0 (fun x => tm_w M_L_law d u0 Q u S n 738 L (.ref x :: st) h) := tm_r_aload_n (i := 0) (by decide +kernel) rfl rfl
theorem ws_L_law_738 : tm_s M_L_law d u0 Q u S n 738 L st h = tm_gI L 4 (fun x => tm_w M_L_law d u0 Q u S n 740 L (.int x :: st) h) := tm_r_iload (j := 4) (by decide +kernel) rfl
theorem ws_L_law_740 : tm_s M_L_law d u0 Q u S n 740 L st h = tm_w M_L_law d u0 Q u S n 741 L (.int 1 :: st) h := tm_r_iconst (k := 1) (by decide +kernel) rfl (by decide)
theorem ws_L_law_741 : tm_s M_L_law d u0 Q u S n 741 L st h = tm_p1 st (fun y r => tm_p1 r (fun x r => tm_w M_L_law d u0 Q u S n 742 L (.int (x + y) :: r) h)) := tm_r_iadd (by decide +kernel) rfl
theorem ws_L_law_742 : tm_s M_L_law d u0 Q u S n 742 L st h = tm_p1 st (fun i r => tm_pA r (fun a r => tm_cI (h a) (fun k f => vp_in i k ∧ tm_w M_L_law d u0 Q u S n 743 L (.int (f i.toNatClampNeg) :: r) h))) := tm_r_iaload (by decide +kernel) rfl
theorem ws_L_law_743 : tm_s M_L_law d u0 Q u S n 743 L st h = tm_gA L 0 (fun x => tm_w M_L_law d u0 Q u S n 744 L (.ref x :: st) h) := tm_r_aload_n (i := 0) (by decide +kernel) rfl rfl
theorem ws_L_law_744 : tm_s M_L_law d u0 Q u S n 744 L st h = tm_gI L 4 (fun x => tm_w M_L_law d u0 Q u S n 746 L (.int x :: st) h) := tm_r_iload (j := 4) (by decide +kernel) rfl
theorem ws_L_law_746 : tm_s M_L_law d u0 Q u S n 746 L st h = tm_w M_L_law d u0 Q u S n 747 L (.int 2 :: st) h := tm_r_iconst (k := 2) (by decide +kernel) rfl (by decide)
theorem ws_L_law_747 : tm_s M_L_law d u0 Q u S n 747 L st h = tm_p1 st (fun y r => tm_p1 r (fun x r => tm_w M_L_law d u0 Q u S n 748 L (.int (x + y) :: r) h)) := tm_r_iadd (by decide +kernel) rfl
theorem ws_L_law_748 : tm_s M_L_law d u0 Q u S n 748 L st h = tm_p1 st (fun i r => tm_pA r (fun a r => tm_cI (h a) (fun k f => vp_in i k ∧ tm_w M_L_law d u0 Q u S n 749 L (.int (f i.toNatClampNeg) :: r) h))) := tm_r_iaload (by decide +kernel) rfl
theorem ws_L_law_749 : tm_s M_L_law d u0 Q u S n 749 L st h = tm_gA L 3 (fun x => tm_w M_L_law d u0 Q u S n 750 L (.ref x :: st) h) := tm_r_aload_n (i := 3) (by decide +kernel) rfl rfl
theorem dd_L_law_750 : decode (tm_cc M_L_law) 750 = .ok (.invokestatic 123, 3) := by decide +kernel
theorem ws_L_law_750 : tm_s M_L_law d u0 Q u S n 750 L st h = tm_T M_L_law d u0 Q u 750 L st h := tm_r_invs dd_L_law_750
theorem ws_L_law_753 : tm_s M_L_law d u0 Q u S n 753 L st h = tm_p1 st (fun x r => tm_w M_L_law d u0 Q u S n 755 (L.set 5 (some (.int x))) r h) := tm_r_istore (j := 5) (by decide +kernel) rfl (by decide)
theorem ws_L_law_755 : tm_s M_L_law d u0 Q u S n 755 L st h = tm_gA L 2 (fun x => tm_w M_L_law d u0 Q u S n 756 L (.ref x :: st) h) := tm_r_aload_n (i := 2) (by decide +kernel) rfl rfl
theorem ws_L_law_756 : tm_s M_L_law d u0 Q u S n 756 L st h = tm_gA L 0 (fun x => tm_w M_L_law d u0 Q u S n 757 L (.ref x :: st) h) := tm_r_aload_n (i := 0) (by decide +kernel) rfl rfl
theorem ws_L_law_757 : tm_s M_L_law d u0 Q u S n 757 L st h = tm_gI L 4 (fun x => tm_w M_L_law d u0 Q u S n 759 L (.int x :: st) h) := tm_r_iload (j := 4) (by decide +kernel) rfl
theorem ws_L_law_759 : tm_s M_L_law d u0 Q u S n 759 L st h = tm_w M_L_law d u0 Q u S n 760 L (.int 1 :: st) h := tm_r_iconst (k := 1) (by decide +kernel) rfl (by decide)
theorem ws_L_law_760 : tm_s M_L_law d u0 Q u S n 760 L st h = tm_p1 st (fun y r => tm_p1 r (fun x r => tm_w M_L_law d u0 Q u S n 761 L (.int (x + y) :: r) h)) := tm_r_iadd (by decide +kernel) rfl
theorem ws_L_law_761 : tm_s M_L_law d u0 Q u S n 761 L st h = tm_p1 st (fun i r => tm_pA r (fun a r => tm_cI (h a) (fun k f => vp_in i k ∧ tm_w M_L_law d u0 Q u S n 762 L (.int (f i.toNatClampNeg) :: r) h))) := tm_r_iaload (by decide +kernel) rfl
theorem ws_L_law_762 : tm_s M_L_law d u0 Q u S n 762 L st h = tm_gA L 0 (fun x => tm_w M_L_law d u0 Q u S n 763 L (.ref x :: st) h) := tm_r_aload_n (i := 0) (by decide +kernel) rfl rfl
theorem ws_L_law_763 : tm_s M_L_law d u0 Q u S n 763 L st h = tm_gI L 4 (fun x => tm_w M_L_law d u0 Q u S n 765 L (.int x :: st) h) := tm_r_iload (j := 4) (by decide +kernel) rfl
theorem ws_L_law_765 : tm_s M_L_law d u0 Q u S n 765 L st h = tm_w M_L_law d u0 Q u S n 766 L (.int 2 :: st) h := tm_r_iconst (k := 2) (by decide +kernel) rfl (by decide)
theorem ws_L_law_766 : tm_s M_L_law d u0 Q u S n 766 L st h = tm_p1 st (fun y r => tm_p1 r (fun x r => tm_w M_L_law d u0 Q u S n 767 L (.int (x + y) :: r) h)) := tm_r_iadd (by decide +kernel) rfl
theorem ws_L_law_767 : tm_s M_L_law d u0 Q u S n 767 L st h = tm_p1 st (fun i r => tm_pA r (fun a r => tm_cI (h a) (fun k f => vp_in i k ∧ tm_w M_L_law d u0 Q u S n 768 L (.int (f i.toNatClampNeg) :: r) h))) := tm_r_iaload (by decide +kernel) rfl
theorem dd_L_law_768 : decode (tm_cc M_L_law) 768 = .ok (.invokevirtual 125, 3) := by decide +kernel
theorem ws_L_law_768 : tm_s M_L_law d u0 Q u S n 768 L st h = tm_T M_L_law d u0 Q u 768 L st h := tm_r_invv dd_L_law_768
theorem ws_L_law_771 : tm_s M_L_law d u0 Q u S n 771 L st h = tm_p1 st (fun x r => tm_w M_L_law d u0 Q u S n 773 (L.set 6 (some (.int x))) r h) := tm_r_istore (j := 6) (by decide +kernel) rfl (by decide)
theorem ws_L_law_773 : tm_s M_L_law d u0 Q u S n 773 L st h = tm_gA L 2 (fun x => tm_w M_L_law d u0 Q u S n 774 L (.ref x :: st) h) := tm_r_aload_n (i := 2) (by decide +kernel) rfl rfl
theorem dd_L_law_774 : decode (tm_cc M_L_law) 774 = .ok (.invokevirtual 93, 3) := by decide +kernel
theorem ws_L_law_774 : tm_s M_L_law d u0 Q u S n 774 L st h = tm_T M_L_law d u0 Q u 774 L st h := tm_r_invv dd_L_law_774
theorem ws_L_law_777 : tm_s M_L_law d u0 Q u S n 777 L st h = tm_gI L 5 (fun x => tm_w M_L_law d u0 Q u S n 779 L (.int x :: st) h) := tm_r_iload (j := 5) (by decide +kernel) rfl
theorem ws_L_law_779 : tm_s M_L_law d u0 Q u S n 779 L st h = tm_p1 st (fun y r => tm_p1 r (fun x r => (x = y → tm_w M_L_law d u0 Q u S n 784 L r h) ∧ (¬ x = y → tm_w M_L_law d u0 Q u S n 782 L r h))) := tm_r_iceq (off := 5) (by decide +kernel) rfl rfl
theorem ws_L_law_782 : tm_s M_L_law d u0 Q u S n 782 L st h = tm_w M_L_law d u0 Q u S n 783 L (.int 0 :: st) h := tm_r_iconst (k := 0) (by decide +kernel) rfl (by decide)
theorem ws_L_law_783 : tm_s M_L_law d u0 Q u S n 783 L st h = tm_p1 st (fun x r => r = [] ∧ (x = 0 ∨ x = 1) ∧ Q (.inl (some (.int x))) h) := tm_r_zret (by decide +kernel) rfl
theorem ws_L_law_784 : tm_s M_L_law d u0 Q u S n 784 L st h = tm_gI L 5 (fun x => tm_w M_L_law d u0 Q u S n 786 L (.int x :: st) h) := tm_r_iload (j := 5) (by decide +kernel) rfl
theorem ws_L_law_786 : tm_s M_L_law d u0 Q u S n 786 L st h = tm_p1 st (fun x r => (¬ x = 0 → tm_w M_L_law d u0 Q u S n 801 L r h) ∧ (¬ ¬ x = 0 → tm_w M_L_law d u0 Q u S n 789 L r h)) := tm_r_ifne (off := 15) (by decide +kernel) rfl rfl
theorem ws_L_law_789 : tm_s M_L_law d u0 Q u S n 789 L st h = tm_gA L 3 (fun x => tm_w M_L_law d u0 Q u S n 790 L (.ref x :: st) h) := tm_r_aload_n (i := 3) (by decide +kernel) rfl rfl
theorem ws_L_law_790 : tm_s M_L_law d u0 Q u S n 790 L st h = tm_w M_L_law d u0 Q u S n 791 L (.int 0 :: st) h := tm_r_iconst (k := 0) (by decide +kernel) rfl (by decide)
theorem ws_L_law_791 : tm_s M_L_law d u0 Q u S n 791 L st h = tm_p1 st (fun i r => tm_pA r (fun a r => tm_cJ (h a) (fun k f => vp_in i k ∧ tm_w M_L_law d u0 Q u S n 792 L (.long (f i.toNatClampNeg) :: r) h))) := tm_r_laload (by decide +kernel) rfl
theorem ws_L_law_792 : tm_s M_L_law d u0 Q u S n 792 L st h = tm_gI L 6 (fun x => tm_w M_L_law d u0 Q u S n 794 L (.int x :: st) h) := tm_r_iload (j := 6) (by decide +kernel) rfl
theorem ws_L_law_794 : tm_s M_L_law d u0 Q u S n 794 L st h = tm_p1 st (fun x r => tm_w M_L_law d u0 Q u S n 795 L (.long x.toInt64 :: r) h) := tm_r_i2l (by decide +kernel) rfl
theorem ws_L_law_795 : tm_s M_L_law d u0 Q u S n 795 L st h = tm_pJ st (fun y r => tm_pJ r (fun x r => tm_w M_L_law d u0 Q u S n 796 L (.int (lg_cmp x y) :: r) h)) := tm_r_lcmp (by decide +kernel) rfl
theorem ws_L_law_796 : tm_s M_L_law d u0 Q u S n 796 L st h = tm_p1 st (fun x r => (x = 0 → tm_w M_L_law d u0 Q u S n 801 L r h) ∧ (¬ x = 0 → tm_w M_L_law d u0 Q u S n 799 L r h)) := tm_r_ifeq (off := 5) (by decide +kernel) rfl rfl
theorem ws_L_law_799 : tm_s M_L_law d u0 Q u S n 799 L st h = tm_w M_L_law d u0 Q u S n 800 L (.int 0 :: st) h := tm_r_iconst (k := 0) (by decide +kernel) rfl (by decide)
theorem ws_L_law_800 : tm_s M_L_law d u0 Q u S n 800 L st h = tm_p1 st (fun x r => r = [] ∧ (x = 0 ∨ x = 1) ∧ Q (.inl (some (.int x))) h) := tm_r_zret (by decide +kernel) rfl
theorem ws_L_law_801 : tm_s M_L_law d u0 Q u S n 801 L st h = tm_w M_L_law d u0 Q u S n 1554 L st h := tm_r_goto (off := 753) (by decide +kernel) rfl
theorem ws_L_law_804 : tm_s M_L_law d u0 Q u S n 804 L st h = tm_gA L 1 (fun x => tm_w M_L_law d u0 Q u S n 805 L (.ref x :: st) h) := tm_r_aload_n (i := 1) (by decide +kernel) rfl rfl
theorem ws_L_law_805 : tm_s M_L_law d u0 Q u S n 805 L st h = tm_gA L 0 (fun x => tm_w M_L_law d u0 Q u S n 806 L (.ref x :: st) h) := tm_r_aload_n (i := 0) (by decide +kernel) rfl rfl
theorem ws_L_law_806 : tm_s M_L_law d u0 Q u S n 806 L st h = tm_gI L 4 (fun x => tm_w M_L_law d u0 Q u S n 808 L (.int x :: st) h) := tm_r_iload (j := 4) (by decide +kernel) rfl
theorem ws_L_law_808 : tm_s M_L_law d u0 Q u S n 808 L st h = tm_w M_L_law d u0 Q u S n 809 L (.int 1 :: st) h := tm_r_iconst (k := 1) (by decide +kernel) rfl (by decide)
theorem ws_L_law_809 : tm_s M_L_law d u0 Q u S n 809 L st h = tm_p1 st (fun y r => tm_p1 r (fun x r => tm_w M_L_law d u0 Q u S n 810 L (.int (x + y) :: r) h)) := tm_r_iadd (by decide +kernel) rfl
theorem ws_L_law_810 : tm_s M_L_law d u0 Q u S n 810 L st h = tm_p1 st (fun i r => tm_pA r (fun a r => tm_cI (h a) (fun k f => vp_in i k ∧ tm_w M_L_law d u0 Q u S n 811 L (.int (f i.toNatClampNeg) :: r) h))) := tm_r_iaload (by decide +kernel) rfl
theorem ws_L_law_811 : tm_s M_L_law d u0 Q u S n 811 L st h = tm_gA L 3 (fun x => tm_w M_L_law d u0 Q u S n 812 L (.ref x :: st) h) := tm_r_aload_n (i := 3) (by decide +kernel) rfl rfl
theorem dd_L_law_812 : decode (tm_cc M_L_law) 812 = .ok (.invokestatic 126, 3) := by decide +kernel
theorem ws_L_law_812 : tm_s M_L_law d u0 Q u S n 812 L st h = tm_T M_L_law d u0 Q u 812 L st h := tm_r_invs dd_L_law_812
theorem ws_L_law_815 : tm_s M_L_law d u0 Q u S n 815 L st h = tm_p1 st (fun x r => tm_w M_L_law d u0 Q u S n 817 (L.set 5 (some (.int x))) r h) := tm_r_istore (j := 5) (by decide +kernel) rfl (by decide)
theorem ws_L_law_817 : tm_s M_L_law d u0 Q u S n 817 L st h = tm_gA L 2 (fun x => tm_w M_L_law d u0 Q u S n 818 L (.ref x :: st) h) := tm_r_aload_n (i := 2) (by decide +kernel) rfl rfl
theorem ws_L_law_818 : tm_s M_L_law d u0 Q u S n 818 L st h = tm_gA L 0 (fun x => tm_w M_L_law d u0 Q u S n 819 L (.ref x :: st) h) := tm_r_aload_n (i := 0) (by decide +kernel) rfl rfl
theorem ws_L_law_819 : tm_s M_L_law d u0 Q u S n 819 L st h = tm_gI L 4 (fun x => tm_w M_L_law d u0 Q u S n 821 L (.int x :: st) h) := tm_r_iload (j := 4) (by decide +kernel) rfl
theorem ws_L_law_821 : tm_s M_L_law d u0 Q u S n 821 L st h = tm_w M_L_law d u0 Q u S n 822 L (.int 1 :: st) h := tm_r_iconst (k := 1) (by decide +kernel) rfl (by decide)
theorem ws_L_law_822 : tm_s M_L_law d u0 Q u S n 822 L st h = tm_p1 st (fun y r => tm_p1 r (fun x r => tm_w M_L_law d u0 Q u S n 823 L (.int (x + y) :: r) h)) := tm_r_iadd (by decide +kernel) rfl
theorem ws_L_law_823 : tm_s M_L_law d u0 Q u S n 823 L st h = tm_p1 st (fun i r => tm_pA r (fun a r => tm_cI (h a) (fun k f => vp_in i k ∧ tm_w M_L_law d u0 Q u S n 824 L (.int (f i.toNatClampNeg) :: r) h))) := tm_r_iaload (by decide +kernel) rfl
theorem dd_L_law_824 : decode (tm_cc M_L_law) 824 = .ok (.invokevirtual 128, 3) := by decide +kernel
theorem ws_L_law_824 : tm_s M_L_law d u0 Q u S n 824 L st h = tm_T M_L_law d u0 Q u 824 L st h := tm_r_invv dd_L_law_824
theorem ws_L_law_827 : tm_s M_L_law d u0 Q u S n 827 L st h = tm_p1 st (fun x r => tm_w M_L_law d u0 Q u S n 829 (L.set 6 (some (.int x))) r h) := tm_r_istore (j := 6) (by decide +kernel) rfl (by decide)
theorem ws_L_law_829 : tm_s M_L_law d u0 Q u S n 829 L st h = tm_gA L 2 (fun x => tm_w M_L_law d u0 Q u S n 830 L (.ref x :: st) h) := tm_r_aload_n (i := 2) (by decide +kernel) rfl rfl
theorem dd_L_law_830 : decode (tm_cc M_L_law) 830 = .ok (.invokevirtual 93, 3) := by decide +kernel
theorem ws_L_law_830 : tm_s M_L_law d u0 Q u S n 830 L st h = tm_T M_L_law d u0 Q u 830 L st h := tm_r_invv dd_L_law_830
theorem ws_L_law_833 : tm_s M_L_law d u0 Q u S n 833 L st h = tm_gI L 5 (fun x => tm_w M_L_law d u0 Q u S n 835 L (.int x :: st) h) := tm_r_iload (j := 5) (by decide +kernel) rfl
theorem ws_L_law_835 : tm_s M_L_law d u0 Q u S n 835 L st h = tm_p1 st (fun y r => tm_p1 r (fun x r => (x = y → tm_w M_L_law d u0 Q u S n 840 L r h) ∧ (¬ x = y → tm_w M_L_law d u0 Q u S n 838 L r h))) := tm_r_iceq (off := 5) (by decide +kernel) rfl rfl
theorem ws_L_law_838 : tm_s M_L_law d u0 Q u S n 838 L st h = tm_w M_L_law d u0 Q u S n 839 L (.int 0 :: st) h := tm_r_iconst (k := 0) (by decide +kernel) rfl (by decide)
theorem ws_L_law_839 : tm_s M_L_law d u0 Q u S n 839 L st h = tm_p1 st (fun x r => r = [] ∧ (x = 0 ∨ x = 1) ∧ Q (.inl (some (.int x))) h) := tm_r_zret (by decide +kernel) rfl
theorem ws_L_law_840 : tm_s M_L_law d u0 Q u S n 840 L st h = tm_gI L 5 (fun x => tm_w M_L_law d u0 Q u S n 842 L (.int x :: st) h) := tm_r_iload (j := 5) (by decide +kernel) rfl
theorem ws_L_law_842 : tm_s M_L_law d u0 Q u S n 842 L st h = tm_p1 st (fun x r => (¬ x = 0 → tm_w M_L_law d u0 Q u S n 857 L r h) ∧ (¬ ¬ x = 0 → tm_w M_L_law d u0 Q u S n 845 L r h)) := tm_r_ifne (off := 15) (by decide +kernel) rfl rfl
theorem ws_L_law_845 : tm_s M_L_law d u0 Q u S n 845 L st h = tm_gA L 3 (fun x => tm_w M_L_law d u0 Q u S n 846 L (.ref x :: st) h) := tm_r_aload_n (i := 3) (by decide +kernel) rfl rfl
theorem ws_L_law_846 : tm_s M_L_law d u0 Q u S n 846 L st h = tm_w M_L_law d u0 Q u S n 847 L (.int 0 :: st) h := tm_r_iconst (k := 0) (by decide +kernel) rfl (by decide)
theorem ws_L_law_847 : tm_s M_L_law d u0 Q u S n 847 L st h = tm_p1 st (fun i r => tm_pA r (fun a r => tm_cJ (h a) (fun k f => vp_in i k ∧ tm_w M_L_law d u0 Q u S n 848 L (.long (f i.toNatClampNeg) :: r) h))) := tm_r_laload (by decide +kernel) rfl
theorem ws_L_law_848 : tm_s M_L_law d u0 Q u S n 848 L st h = tm_gI L 6 (fun x => tm_w M_L_law d u0 Q u S n 850 L (.int x :: st) h) := tm_r_iload (j := 6) (by decide +kernel) rfl
theorem ws_L_law_850 : tm_s M_L_law d u0 Q u S n 850 L st h = tm_p1 st (fun x r => tm_w M_L_law d u0 Q u S n 851 L (.long x.toInt64 :: r) h) := tm_r_i2l (by decide +kernel) rfl
theorem ws_L_law_851 : tm_s M_L_law d u0 Q u S n 851 L st h = tm_pJ st (fun y r => tm_pJ r (fun x r => tm_w M_L_law d u0 Q u S n 852 L (.int (lg_cmp x y) :: r) h)) := tm_r_lcmp (by decide +kernel) rfl
theorem ws_L_law_852 : tm_s M_L_law d u0 Q u S n 852 L st h = tm_p1 st (fun x r => (x = 0 → tm_w M_L_law d u0 Q u S n 857 L r h) ∧ (¬ x = 0 → tm_w M_L_law d u0 Q u S n 855 L r h)) := tm_r_ifeq (off := 5) (by decide +kernel) rfl rfl
theorem ws_L_law_855 : tm_s M_L_law d u0 Q u S n 855 L st h = tm_w M_L_law d u0 Q u S n 856 L (.int 0 :: st) h := tm_r_iconst (k := 0) (by decide +kernel) rfl (by decide)
theorem ws_L_law_856 : tm_s M_L_law d u0 Q u S n 856 L st h = tm_p1 st (fun x r => r = [] ∧ (x = 0 ∨ x = 1) ∧ Q (.inl (some (.int x))) h) := tm_r_zret (by decide +kernel) rfl
theorem ws_L_law_857 : tm_s M_L_law d u0 Q u S n 857 L st h = tm_w M_L_law d u0 Q u S n 1554 L st h := tm_r_goto (off := 697) (by decide +kernel) rfl
theorem ws_L_law_860 : tm_s M_L_law d u0 Q u S n 860 L st h = tm_gA L 1 (fun x => tm_w M_L_law d u0 Q u S n 861 L (.ref x :: st) h) := tm_r_aload_n (i := 1) (by decide +kernel) rfl rfl
theorem ws_L_law_861 : tm_s M_L_law d u0 Q u S n 861 L st h = tm_gA L 0 (fun x => tm_w M_L_law d u0 Q u S n 862 L (.ref x :: st) h) := tm_r_aload_n (i := 0) (by decide +kernel) rfl rfl
theorem ws_L_law_862 : tm_s M_L_law d u0 Q u S n 862 L st h = tm_gI L 4 (fun x => tm_w M_L_law d u0 Q u S n 864 L (.int x :: st) h) := tm_r_iload (j := 4) (by decide +kernel) rfl
theorem ws_L_law_864 : tm_s M_L_law d u0 Q u S n 864 L st h = tm_w M_L_law d u0 Q u S n 865 L (.int 1 :: st) h := tm_r_iconst (k := 1) (by decide +kernel) rfl (by decide)
theorem ws_L_law_865 : tm_s M_L_law d u0 Q u S n 865 L st h = tm_p1 st (fun y r => tm_p1 r (fun x r => tm_w M_L_law d u0 Q u S n 866 L (.int (x + y) :: r) h)) := tm_r_iadd (by decide +kernel) rfl
theorem ws_L_law_866 : tm_s M_L_law d u0 Q u S n 866 L st h = tm_p1 st (fun i r => tm_pA r (fun a r => tm_cI (h a) (fun k f => vp_in i k ∧ tm_w M_L_law d u0 Q u S n 867 L (.int (f i.toNatClampNeg) :: r) h))) := tm_r_iaload (by decide +kernel) rfl
theorem ws_L_law_867 : tm_s M_L_law d u0 Q u S n 867 L st h = tm_gA L 0 (fun x => tm_w M_L_law d u0 Q u S n 868 L (.ref x :: st) h) := tm_r_aload_n (i := 0) (by decide +kernel) rfl rfl
theorem ws_L_law_868 : tm_s M_L_law d u0 Q u S n 868 L st h = tm_gI L 4 (fun x => tm_w M_L_law d u0 Q u S n 870 L (.int x :: st) h) := tm_r_iload (j := 4) (by decide +kernel) rfl
theorem ws_L_law_870 : tm_s M_L_law d u0 Q u S n 870 L st h = tm_w M_L_law d u0 Q u S n 871 L (.int 2 :: st) h := tm_r_iconst (k := 2) (by decide +kernel) rfl (by decide)
theorem ws_L_law_871 : tm_s M_L_law d u0 Q u S n 871 L st h = tm_p1 st (fun y r => tm_p1 r (fun x r => tm_w M_L_law d u0 Q u S n 872 L (.int (x + y) :: r) h)) := tm_r_iadd (by decide +kernel) rfl
theorem ws_L_law_872 : tm_s M_L_law d u0 Q u S n 872 L st h = tm_p1 st (fun i r => tm_pA r (fun a r => tm_cI (h a) (fun k f => vp_in i k ∧ tm_w M_L_law d u0 Q u S n 873 L (.int (f i.toNatClampNeg) :: r) h))) := tm_r_iaload (by decide +kernel) rfl
theorem ws_L_law_873 : tm_s M_L_law d u0 Q u S n 873 L st h = tm_gA L 3 (fun x => tm_w M_L_law d u0 Q u S n 874 L (.ref x :: st) h) := tm_r_aload_n (i := 3) (by decide +kernel) rfl rfl
theorem dd_L_law_874 : decode (tm_cc M_L_law) 874 = .ok (.invokestatic 129, 3) := by decide +kernel
theorem ws_L_law_874 : tm_s M_L_law d u0 Q u S n 874 L st h = tm_T M_L_law d u0 Q u 874 L st h := tm_r_invs dd_L_law_874
theorem ws_L_law_877 : tm_s M_L_law d u0 Q u S n 877 L st h = tm_p1 st (fun x r => tm_w M_L_law d u0 Q u S n 879 (L.set 5 (some (.int x))) r h) := tm_r_istore (j := 5) (by decide +kernel) rfl (by decide)
theorem ws_L_law_879 : tm_s M_L_law d u0 Q u S n 879 L st h = tm_gA L 2 (fun x => tm_w M_L_law d u0 Q u S n 880 L (.ref x :: st) h) := tm_r_aload_n (i := 2) (by decide +kernel) rfl rfl
theorem ws_L_law_880 : tm_s M_L_law d u0 Q u S n 880 L st h = tm_gA L 0 (fun x => tm_w M_L_law d u0 Q u S n 881 L (.ref x :: st) h) := tm_r_aload_n (i := 0) (by decide +kernel) rfl rfl
theorem ws_L_law_881 : tm_s M_L_law d u0 Q u S n 881 L st h = tm_gI L 4 (fun x => tm_w M_L_law d u0 Q u S n 883 L (.int x :: st) h) := tm_r_iload (j := 4) (by decide +kernel) rfl
theorem ws_L_law_883 : tm_s M_L_law d u0 Q u S n 883 L st h = tm_w M_L_law d u0 Q u S n 884 L (.int 1 :: st) h := tm_r_iconst (k := 1) (by decide +kernel) rfl (by decide)
theorem ws_L_law_884 : tm_s M_L_law d u0 Q u S n 884 L st h = tm_p1 st (fun y r => tm_p1 r (fun x r => tm_w M_L_law d u0 Q u S n 885 L (.int (x + y) :: r) h)) := tm_r_iadd (by decide +kernel) rfl
theorem ws_L_law_885 : tm_s M_L_law d u0 Q u S n 885 L st h = tm_p1 st (fun i r => tm_pA r (fun a r => tm_cI (h a) (fun k f => vp_in i k ∧ tm_w M_L_law d u0 Q u S n 886 L (.int (f i.toNatClampNeg) :: r) h))) := tm_r_iaload (by decide +kernel) rfl
theorem ws_L_law_886 : tm_s M_L_law d u0 Q u S n 886 L st h = tm_gA L 0 (fun x => tm_w M_L_law d u0 Q u S n 887 L (.ref x :: st) h) := tm_r_aload_n (i := 0) (by decide +kernel) rfl rfl
theorem ws_L_law_887 : tm_s M_L_law d u0 Q u S n 887 L st h = tm_gI L 4 (fun x => tm_w M_L_law d u0 Q u S n 889 L (.int x :: st) h) := tm_r_iload (j := 4) (by decide +kernel) rfl
theorem ws_L_law_889 : tm_s M_L_law d u0 Q u S n 889 L st h = tm_w M_L_law d u0 Q u S n 890 L (.int 2 :: st) h := tm_r_iconst (k := 2) (by decide +kernel) rfl (by decide)
theorem ws_L_law_890 : tm_s M_L_law d u0 Q u S n 890 L st h = tm_p1 st (fun y r => tm_p1 r (fun x r => tm_w M_L_law d u0 Q u S n 891 L (.int (x + y) :: r) h)) := tm_r_iadd (by decide +kernel) rfl
theorem ws_L_law_891 : tm_s M_L_law d u0 Q u S n 891 L st h = tm_p1 st (fun i r => tm_pA r (fun a r => tm_cI (h a) (fun k f => vp_in i k ∧ tm_w M_L_law d u0 Q u S n 892 L (.int (f i.toNatClampNeg) :: r) h))) := tm_r_iaload (by decide +kernel) rfl
theorem dd_L_law_892 : decode (tm_cc M_L_law) 892 = .ok (.invokevirtual 131, 3) := by decide +kernel
theorem ws_L_law_892 : tm_s M_L_law d u0 Q u S n 892 L st h = tm_T M_L_law d u0 Q u 892 L st h := tm_r_invv dd_L_law_892
theorem ws_L_law_895 : tm_s M_L_law d u0 Q u S n 895 L st h = tm_p1 st (fun x r => tm_w M_L_law d u0 Q u S n 897 (L.set 6 (some (.int x))) r h) := tm_r_istore (j := 6) (by decide +kernel) rfl (by decide)
theorem ws_L_law_897 : tm_s M_L_law d u0 Q u S n 897 L st h = tm_gA L 2 (fun x => tm_w M_L_law d u0 Q u S n 898 L (.ref x :: st) h) := tm_r_aload_n (i := 2) (by decide +kernel) rfl rfl
theorem dd_L_law_898 : decode (tm_cc M_L_law) 898 = .ok (.invokevirtual 93, 3) := by decide +kernel
theorem ws_L_law_898 : tm_s M_L_law d u0 Q u S n 898 L st h = tm_T M_L_law d u0 Q u 898 L st h := tm_r_invv dd_L_law_898
theorem ws_L_law_901 : tm_s M_L_law d u0 Q u S n 901 L st h = tm_gI L 5 (fun x => tm_w M_L_law d u0 Q u S n 903 L (.int x :: st) h) := tm_r_iload (j := 5) (by decide +kernel) rfl
theorem ws_L_law_903 : tm_s M_L_law d u0 Q u S n 903 L st h = tm_p1 st (fun y r => tm_p1 r (fun x r => (x = y → tm_w M_L_law d u0 Q u S n 908 L r h) ∧ (¬ x = y → tm_w M_L_law d u0 Q u S n 906 L r h))) := tm_r_iceq (off := 5) (by decide +kernel) rfl rfl
theorem ws_L_law_906 : tm_s M_L_law d u0 Q u S n 906 L st h = tm_w M_L_law d u0 Q u S n 907 L (.int 0 :: st) h := tm_r_iconst (k := 0) (by decide +kernel) rfl (by decide)
theorem ws_L_law_907 : tm_s M_L_law d u0 Q u S n 907 L st h = tm_p1 st (fun x r => r = [] ∧ (x = 0 ∨ x = 1) ∧ Q (.inl (some (.int x))) h) := tm_r_zret (by decide +kernel) rfl
theorem ws_L_law_908 : tm_s M_L_law d u0 Q u S n 908 L st h = tm_gI L 5 (fun x => tm_w M_L_law d u0 Q u S n 910 L (.int x :: st) h) := tm_r_iload (j := 5) (by decide +kernel) rfl
theorem ws_L_law_910 : tm_s M_L_law d u0 Q u S n 910 L st h = tm_p1 st (fun x r => (¬ x = 0 → tm_w M_L_law d u0 Q u S n 925 L r h) ∧ (¬ ¬ x = 0 → tm_w M_L_law d u0 Q u S n 913 L r h)) := tm_r_ifne (off := 15) (by decide +kernel) rfl rfl
theorem ws_L_law_913 : tm_s M_L_law d u0 Q u S n 913 L st h = tm_gA L 3 (fun x => tm_w M_L_law d u0 Q u S n 914 L (.ref x :: st) h) := tm_r_aload_n (i := 3) (by decide +kernel) rfl rfl
theorem ws_L_law_914 : tm_s M_L_law d u0 Q u S n 914 L st h = tm_w M_L_law d u0 Q u S n 915 L (.int 0 :: st) h := tm_r_iconst (k := 0) (by decide +kernel) rfl (by decide)
theorem ws_L_law_915 : tm_s M_L_law d u0 Q u S n 915 L st h = tm_p1 st (fun i r => tm_pA r (fun a r => tm_cJ (h a) (fun k f => vp_in i k ∧ tm_w M_L_law d u0 Q u S n 916 L (.long (f i.toNatClampNeg) :: r) h))) := tm_r_laload (by decide +kernel) rfl
theorem ws_L_law_916 : tm_s M_L_law d u0 Q u S n 916 L st h = tm_gI L 6 (fun x => tm_w M_L_law d u0 Q u S n 918 L (.int x :: st) h) := tm_r_iload (j := 6) (by decide +kernel) rfl
theorem ws_L_law_918 : tm_s M_L_law d u0 Q u S n 918 L st h = tm_p1 st (fun x r => tm_w M_L_law d u0 Q u S n 919 L (.long x.toInt64 :: r) h) := tm_r_i2l (by decide +kernel) rfl
theorem ws_L_law_919 : tm_s M_L_law d u0 Q u S n 919 L st h = tm_pJ st (fun y r => tm_pJ r (fun x r => tm_w M_L_law d u0 Q u S n 920 L (.int (lg_cmp x y) :: r) h)) := tm_r_lcmp (by decide +kernel) rfl
theorem ws_L_law_920 : tm_s M_L_law d u0 Q u S n 920 L st h = tm_p1 st (fun x r => (x = 0 → tm_w M_L_law d u0 Q u S n 925 L r h) ∧ (¬ x = 0 → tm_w M_L_law d u0 Q u S n 923 L r h)) := tm_r_ifeq (off := 5) (by decide +kernel) rfl rfl
theorem ws_L_law_923 : tm_s M_L_law d u0 Q u S n 923 L st h = tm_w M_L_law d u0 Q u S n 924 L (.int 0 :: st) h := tm_r_iconst (k := 0) (by decide +kernel) rfl (by decide)
theorem ws_L_law_924 : tm_s M_L_law d u0 Q u S n 924 L st h = tm_p1 st (fun x r => r = [] ∧ (x = 0 ∨ x = 1) ∧ Q (.inl (some (.int x))) h) := tm_r_zret (by decide +kernel) rfl
theorem ws_L_law_925 : tm_s M_L_law d u0 Q u S n 925 L st h = tm_w M_L_law d u0 Q u S n 1554 L st h := tm_r_goto (off := 629) (by decide +kernel) rfl
theorem ws_L_law_928 : tm_s M_L_law d u0 Q u S n 928 L st h = tm_gA L 1 (fun x => tm_w M_L_law d u0 Q u S n 929 L (.ref x :: st) h) := tm_r_aload_n (i := 1) (by decide +kernel) rfl rfl
theorem ws_L_law_929 : tm_s M_L_law d u0 Q u S n 929 L st h = tm_gA L 0 (fun x => tm_w M_L_law d u0 Q u S n 930 L (.ref x :: st) h) := tm_r_aload_n (i := 0) (by decide +kernel) rfl rfl
theorem ws_L_law_930 : tm_s M_L_law d u0 Q u S n 930 L st h = tm_gI L 4 (fun x => tm_w M_L_law d u0 Q u S n 932 L (.int x :: st) h) := tm_r_iload (j := 4) (by decide +kernel) rfl
theorem ws_L_law_932 : tm_s M_L_law d u0 Q u S n 932 L st h = tm_w M_L_law d u0 Q u S n 933 L (.int 1 :: st) h := tm_r_iconst (k := 1) (by decide +kernel) rfl (by decide)
theorem ws_L_law_933 : tm_s M_L_law d u0 Q u S n 933 L st h = tm_p1 st (fun y r => tm_p1 r (fun x r => tm_w M_L_law d u0 Q u S n 934 L (.int (x + y) :: r) h)) := tm_r_iadd (by decide +kernel) rfl
theorem ws_L_law_934 : tm_s M_L_law d u0 Q u S n 934 L st h = tm_p1 st (fun i r => tm_pA r (fun a r => tm_cI (h a) (fun k f => vp_in i k ∧ tm_w M_L_law d u0 Q u S n 935 L (.int (f i.toNatClampNeg) :: r) h))) := tm_r_iaload (by decide +kernel) rfl
theorem ws_L_law_935 : tm_s M_L_law d u0 Q u S n 935 L st h = tm_gA L 3 (fun x => tm_w M_L_law d u0 Q u S n 936 L (.ref x :: st) h) := tm_r_aload_n (i := 3) (by decide +kernel) rfl rfl
theorem dd_L_law_936 : decode (tm_cc M_L_law) 936 = .ok (.invokestatic 132, 3) := by decide +kernel
theorem ws_L_law_936 : tm_s M_L_law d u0 Q u S n 936 L st h = tm_T M_L_law d u0 Q u 936 L st h := tm_r_invs dd_L_law_936
theorem ws_L_law_939 : tm_s M_L_law d u0 Q u S n 939 L st h = tm_p1 st (fun x r => tm_w M_L_law d u0 Q u S n 941 (L.set 5 (some (.int x))) r h) := tm_r_istore (j := 5) (by decide +kernel) rfl (by decide)
theorem ws_L_law_941 : tm_s M_L_law d u0 Q u S n 941 L st h = tm_gA L 2 (fun x => tm_w M_L_law d u0 Q u S n 942 L (.ref x :: st) h) := tm_r_aload_n (i := 2) (by decide +kernel) rfl rfl
theorem ws_L_law_942 : tm_s M_L_law d u0 Q u S n 942 L st h = tm_gA L 0 (fun x => tm_w M_L_law d u0 Q u S n 943 L (.ref x :: st) h) := tm_r_aload_n (i := 0) (by decide +kernel) rfl rfl
theorem ws_L_law_943 : tm_s M_L_law d u0 Q u S n 943 L st h = tm_gI L 4 (fun x => tm_w M_L_law d u0 Q u S n 945 L (.int x :: st) h) := tm_r_iload (j := 4) (by decide +kernel) rfl
theorem ws_L_law_945 : tm_s M_L_law d u0 Q u S n 945 L st h = tm_w M_L_law d u0 Q u S n 946 L (.int 1 :: st) h := tm_r_iconst (k := 1) (by decide +kernel) rfl (by decide)
theorem ws_L_law_946 : tm_s M_L_law d u0 Q u S n 946 L st h = tm_p1 st (fun y r => tm_p1 r (fun x r => tm_w M_L_law d u0 Q u S n 947 L (.int (x + y) :: r) h)) := tm_r_iadd (by decide +kernel) rfl
theorem ws_L_law_947 : tm_s M_L_law d u0 Q u S n 947 L st h = tm_p1 st (fun i r => tm_pA r (fun a r => tm_cI (h a) (fun k f => vp_in i k ∧ tm_w M_L_law d u0 Q u S n 948 L (.int (f i.toNatClampNeg) :: r) h))) := tm_r_iaload (by decide +kernel) rfl
theorem dd_L_law_948 : decode (tm_cc M_L_law) 948 = .ok (.invokevirtual 134, 3) := by decide +kernel
theorem ws_L_law_948 : tm_s M_L_law d u0 Q u S n 948 L st h = tm_T M_L_law d u0 Q u 948 L st h := tm_r_invv dd_L_law_948
theorem ws_L_law_951 : tm_s M_L_law d u0 Q u S n 951 L st h = tm_p1 st (fun x r => tm_w M_L_law d u0 Q u S n 953 (L.set 6 (some (.int x))) r h) := tm_r_istore (j := 6) (by decide +kernel) rfl (by decide)
theorem ws_L_law_953 : tm_s M_L_law d u0 Q u S n 953 L st h = tm_gA L 2 (fun x => tm_w M_L_law d u0 Q u S n 954 L (.ref x :: st) h) := tm_r_aload_n (i := 2) (by decide +kernel) rfl rfl
theorem dd_L_law_954 : decode (tm_cc M_L_law) 954 = .ok (.invokevirtual 93, 3) := by decide +kernel
theorem ws_L_law_954 : tm_s M_L_law d u0 Q u S n 954 L st h = tm_T M_L_law d u0 Q u 954 L st h := tm_r_invv dd_L_law_954
theorem ws_L_law_957 : tm_s M_L_law d u0 Q u S n 957 L st h = tm_gI L 5 (fun x => tm_w M_L_law d u0 Q u S n 959 L (.int x :: st) h) := tm_r_iload (j := 5) (by decide +kernel) rfl
theorem ws_L_law_959 : tm_s M_L_law d u0 Q u S n 959 L st h = tm_p1 st (fun y r => tm_p1 r (fun x r => (x = y → tm_w M_L_law d u0 Q u S n 964 L r h) ∧ (¬ x = y → tm_w M_L_law d u0 Q u S n 962 L r h))) := tm_r_iceq (off := 5) (by decide +kernel) rfl rfl
theorem ws_L_law_962 : tm_s M_L_law d u0 Q u S n 962 L st h = tm_w M_L_law d u0 Q u S n 963 L (.int 0 :: st) h := tm_r_iconst (k := 0) (by decide +kernel) rfl (by decide)
theorem ws_L_law_963 : tm_s M_L_law d u0 Q u S n 963 L st h = tm_p1 st (fun x r => r = [] ∧ (x = 0 ∨ x = 1) ∧ Q (.inl (some (.int x))) h) := tm_r_zret (by decide +kernel) rfl
theorem ws_L_law_964 : tm_s M_L_law d u0 Q u S n 964 L st h = tm_gI L 5 (fun x => tm_w M_L_law d u0 Q u S n 966 L (.int x :: st) h) := tm_r_iload (j := 5) (by decide +kernel) rfl
theorem ws_L_law_966 : tm_s M_L_law d u0 Q u S n 966 L st h = tm_p1 st (fun x r => (¬ x = 0 → tm_w M_L_law d u0 Q u S n 981 L r h) ∧ (¬ ¬ x = 0 → tm_w M_L_law d u0 Q u S n 969 L r h)) := tm_r_ifne (off := 15) (by decide +kernel) rfl rfl
theorem ws_L_law_969 : tm_s M_L_law d u0 Q u S n 969 L st h = tm_gA L 3 (fun x => tm_w M_L_law d u0 Q u S n 970 L (.ref x :: st) h) := tm_r_aload_n (i := 3) (by decide +kernel) rfl rfl
theorem ws_L_law_970 : tm_s M_L_law d u0 Q u S n 970 L st h = tm_w M_L_law d u0 Q u S n 971 L (.int 0 :: st) h := tm_r_iconst (k := 0) (by decide +kernel) rfl (by decide)
theorem ws_L_law_971 : tm_s M_L_law d u0 Q u S n 971 L st h = tm_p1 st (fun i r => tm_pA r (fun a r => tm_cJ (h a) (fun k f => vp_in i k ∧ tm_w M_L_law d u0 Q u S n 972 L (.long (f i.toNatClampNeg) :: r) h))) := tm_r_laload (by decide +kernel) rfl
theorem ws_L_law_972 : tm_s M_L_law d u0 Q u S n 972 L st h = tm_gI L 6 (fun x => tm_w M_L_law d u0 Q u S n 974 L (.int x :: st) h) := tm_r_iload (j := 6) (by decide +kernel) rfl
theorem ws_L_law_974 : tm_s M_L_law d u0 Q u S n 974 L st h = tm_p1 st (fun x r => tm_w M_L_law d u0 Q u S n 975 L (.long x.toInt64 :: r) h) := tm_r_i2l (by decide +kernel) rfl
theorem ws_L_law_975 : tm_s M_L_law d u0 Q u S n 975 L st h = tm_pJ st (fun y r => tm_pJ r (fun x r => tm_w M_L_law d u0 Q u S n 976 L (.int (lg_cmp x y) :: r) h)) := tm_r_lcmp (by decide +kernel) rfl
theorem ws_L_law_976 : tm_s M_L_law d u0 Q u S n 976 L st h = tm_p1 st (fun x r => (x = 0 → tm_w M_L_law d u0 Q u S n 981 L r h) ∧ (¬ x = 0 → tm_w M_L_law d u0 Q u S n 979 L r h)) := tm_r_ifeq (off := 5) (by decide +kernel) rfl rfl
theorem ws_L_law_979 : tm_s M_L_law d u0 Q u S n 979 L st h = tm_w M_L_law d u0 Q u S n 980 L (.int 0 :: st) h := tm_r_iconst (k := 0) (by decide +kernel) rfl (by decide)
theorem ws_L_law_980 : tm_s M_L_law d u0 Q u S n 980 L st h = tm_p1 st (fun x r => r = [] ∧ (x = 0 ∨ x = 1) ∧ Q (.inl (some (.int x))) h) := tm_r_zret (by decide +kernel) rfl
theorem ws_L_law_981 : tm_s M_L_law d u0 Q u S n 981 L st h = tm_w M_L_law d u0 Q u S n 1554 L st h := tm_r_goto (off := 573) (by decide +kernel) rfl
theorem ws_L_law_984 : tm_s M_L_law d u0 Q u S n 984 L st h = tm_gA L 1 (fun x => tm_w M_L_law d u0 Q u S n 985 L (.ref x :: st) h) := tm_r_aload_n (i := 1) (by decide +kernel) rfl rfl
theorem ws_L_law_985 : tm_s M_L_law d u0 Q u S n 985 L st h = tm_gA L 0 (fun x => tm_w M_L_law d u0 Q u S n 986 L (.ref x :: st) h) := tm_r_aload_n (i := 0) (by decide +kernel) rfl rfl
theorem ws_L_law_986 : tm_s M_L_law d u0 Q u S n 986 L st h = tm_gI L 4 (fun x => tm_w M_L_law d u0 Q u S n 988 L (.int x :: st) h) := tm_r_iload (j := 4) (by decide +kernel) rfl
theorem ws_L_law_988 : tm_s M_L_law d u0 Q u S n 988 L st h = tm_w M_L_law d u0 Q u S n 989 L (.int 1 :: st) h := tm_r_iconst (k := 1) (by decide +kernel) rfl (by decide)
theorem ws_L_law_989 : tm_s M_L_law d u0 Q u S n 989 L st h = tm_p1 st (fun y r => tm_p1 r (fun x r => tm_w M_L_law d u0 Q u S n 990 L (.int (x + y) :: r) h)) := tm_r_iadd (by decide +kernel) rfl
theorem ws_L_law_990 : tm_s M_L_law d u0 Q u S n 990 L st h = tm_p1 st (fun i r => tm_pA r (fun a r => tm_cI (h a) (fun k f => vp_in i k ∧ tm_w M_L_law d u0 Q u S n 991 L (.int (f i.toNatClampNeg) :: r) h))) := tm_r_iaload (by decide +kernel) rfl
theorem ws_L_law_991 : tm_s M_L_law d u0 Q u S n 991 L st h = tm_gA L 0 (fun x => tm_w M_L_law d u0 Q u S n 992 L (.ref x :: st) h) := tm_r_aload_n (i := 0) (by decide +kernel) rfl rfl
theorem ws_L_law_992 : tm_s M_L_law d u0 Q u S n 992 L st h = tm_gI L 4 (fun x => tm_w M_L_law d u0 Q u S n 994 L (.int x :: st) h) := tm_r_iload (j := 4) (by decide +kernel) rfl
theorem ws_L_law_994 : tm_s M_L_law d u0 Q u S n 994 L st h = tm_w M_L_law d u0 Q u S n 995 L (.int 2 :: st) h := tm_r_iconst (k := 2) (by decide +kernel) rfl (by decide)
theorem ws_L_law_995 : tm_s M_L_law d u0 Q u S n 995 L st h = tm_p1 st (fun y r => tm_p1 r (fun x r => tm_w M_L_law d u0 Q u S n 996 L (.int (x + y) :: r) h)) := tm_r_iadd (by decide +kernel) rfl
theorem ws_L_law_996 : tm_s M_L_law d u0 Q u S n 996 L st h = tm_p1 st (fun i r => tm_pA r (fun a r => tm_cI (h a) (fun k f => vp_in i k ∧ tm_w M_L_law d u0 Q u S n 997 L (.int (f i.toNatClampNeg) :: r) h))) := tm_r_iaload (by decide +kernel) rfl
theorem ws_L_law_997 : tm_s M_L_law d u0 Q u S n 997 L st h = tm_gA L 3 (fun x => tm_w M_L_law d u0 Q u S n 998 L (.ref x :: st) h) := tm_r_aload_n (i := 3) (by decide +kernel) rfl rfl
theorem dd_L_law_998 : decode (tm_cc M_L_law) 998 = .ok (.invokestatic 135, 3) := by decide +kernel
theorem ws_L_law_998 : tm_s M_L_law d u0 Q u S n 998 L st h = tm_T M_L_law d u0 Q u 998 L st h := tm_r_invs dd_L_law_998
theorem ws_L_law_1001 : tm_s M_L_law d u0 Q u S n 1001 L st h = tm_p1 st (fun x r => tm_w M_L_law d u0 Q u S n 1003 (L.set 5 (some (.int x))) r h) := tm_r_istore (j := 5) (by decide +kernel) rfl (by decide)
theorem ws_L_law_1003 : tm_s M_L_law d u0 Q u S n 1003 L st h = tm_gA L 2 (fun x => tm_w M_L_law d u0 Q u S n 1004 L (.ref x :: st) h) := tm_r_aload_n (i := 2) (by decide +kernel) rfl rfl
theorem ws_L_law_1004 : tm_s M_L_law d u0 Q u S n 1004 L st h = tm_gA L 0 (fun x => tm_w M_L_law d u0 Q u S n 1005 L (.ref x :: st) h) := tm_r_aload_n (i := 0) (by decide +kernel) rfl rfl
theorem ws_L_law_1005 : tm_s M_L_law d u0 Q u S n 1005 L st h = tm_gI L 4 (fun x => tm_w M_L_law d u0 Q u S n 1007 L (.int x :: st) h) := tm_r_iload (j := 4) (by decide +kernel) rfl
theorem ws_L_law_1007 : tm_s M_L_law d u0 Q u S n 1007 L st h = tm_w M_L_law d u0 Q u S n 1008 L (.int 1 :: st) h := tm_r_iconst (k := 1) (by decide +kernel) rfl (by decide)
theorem ws_L_law_1008 : tm_s M_L_law d u0 Q u S n 1008 L st h = tm_p1 st (fun y r => tm_p1 r (fun x r => tm_w M_L_law d u0 Q u S n 1009 L (.int (x + y) :: r) h)) := tm_r_iadd (by decide +kernel) rfl
theorem ws_L_law_1009 : tm_s M_L_law d u0 Q u S n 1009 L st h = tm_p1 st (fun i r => tm_pA r (fun a r => tm_cI (h a) (fun k f => vp_in i k ∧ tm_w M_L_law d u0 Q u S n 1010 L (.int (f i.toNatClampNeg) :: r) h))) := tm_r_iaload (by decide +kernel) rfl
theorem ws_L_law_1010 : tm_s M_L_law d u0 Q u S n 1010 L st h = tm_gA L 0 (fun x => tm_w M_L_law d u0 Q u S n 1011 L (.ref x :: st) h) := tm_r_aload_n (i := 0) (by decide +kernel) rfl rfl
theorem ws_L_law_1011 : tm_s M_L_law d u0 Q u S n 1011 L st h = tm_gI L 4 (fun x => tm_w M_L_law d u0 Q u S n 1013 L (.int x :: st) h) := tm_r_iload (j := 4) (by decide +kernel) rfl
theorem ws_L_law_1013 : tm_s M_L_law d u0 Q u S n 1013 L st h = tm_w M_L_law d u0 Q u S n 1014 L (.int 2 :: st) h := tm_r_iconst (k := 2) (by decide +kernel) rfl (by decide)
theorem ws_L_law_1014 : tm_s M_L_law d u0 Q u S n 1014 L st h = tm_p1 st (fun y r => tm_p1 r (fun x r => tm_w M_L_law d u0 Q u S n 1015 L (.int (x + y) :: r) h)) := tm_r_iadd (by decide +kernel) rfl
theorem ws_L_law_1015 : tm_s M_L_law d u0 Q u S n 1015 L st h = tm_p1 st (fun i r => tm_pA r (fun a r => tm_cI (h a) (fun k f => vp_in i k ∧ tm_w M_L_law d u0 Q u S n 1016 L (.int (f i.toNatClampNeg) :: r) h))) := tm_r_iaload (by decide +kernel) rfl
theorem dd_L_law_1016 : decode (tm_cc M_L_law) 1016 = .ok (.invokevirtual 137, 3) := by decide +kernel
theorem ws_L_law_1016 : tm_s M_L_law d u0 Q u S n 1016 L st h = tm_T M_L_law d u0 Q u 1016 L st h := tm_r_invv dd_L_law_1016
theorem ws_L_law_1019 : tm_s M_L_law d u0 Q u S n 1019 L st h = tm_p1 st (fun x r => tm_w M_L_law d u0 Q u S n 1021 (L.set 6 (some (.int x))) r h) := tm_r_istore (j := 6) (by decide +kernel) rfl (by decide)
theorem ws_L_law_1021 : tm_s M_L_law d u0 Q u S n 1021 L st h = tm_gA L 2 (fun x => tm_w M_L_law d u0 Q u S n 1022 L (.ref x :: st) h) := tm_r_aload_n (i := 2) (by decide +kernel) rfl rfl
theorem dd_L_law_1022 : decode (tm_cc M_L_law) 1022 = .ok (.invokevirtual 93, 3) := by decide +kernel
theorem ws_L_law_1022 : tm_s M_L_law d u0 Q u S n 1022 L st h = tm_T M_L_law d u0 Q u 1022 L st h := tm_r_invv dd_L_law_1022
theorem ws_L_law_1025 : tm_s M_L_law d u0 Q u S n 1025 L st h = tm_gI L 5 (fun x => tm_w M_L_law d u0 Q u S n 1027 L (.int x :: st) h) := tm_r_iload (j := 5) (by decide +kernel) rfl
theorem ws_L_law_1027 : tm_s M_L_law d u0 Q u S n 1027 L st h = tm_p1 st (fun y r => tm_p1 r (fun x r => (x = y → tm_w M_L_law d u0 Q u S n 1032 L r h) ∧ (¬ x = y → tm_w M_L_law d u0 Q u S n 1030 L r h))) := tm_r_iceq (off := 5) (by decide +kernel) rfl rfl
theorem ws_L_law_1030 : tm_s M_L_law d u0 Q u S n 1030 L st h = tm_w M_L_law d u0 Q u S n 1031 L (.int 0 :: st) h := tm_r_iconst (k := 0) (by decide +kernel) rfl (by decide)
theorem ws_L_law_1031 : tm_s M_L_law d u0 Q u S n 1031 L st h = tm_p1 st (fun x r => r = [] ∧ (x = 0 ∨ x = 1) ∧ Q (.inl (some (.int x))) h) := tm_r_zret (by decide +kernel) rfl
theorem ws_L_law_1032 : tm_s M_L_law d u0 Q u S n 1032 L st h = tm_gI L 5 (fun x => tm_w M_L_law d u0 Q u S n 1034 L (.int x :: st) h) := tm_r_iload (j := 5) (by decide +kernel) rfl
theorem ws_L_law_1034 : tm_s M_L_law d u0 Q u S n 1034 L st h = tm_p1 st (fun x r => (¬ x = 0 → tm_w M_L_law d u0 Q u S n 1049 L r h) ∧ (¬ ¬ x = 0 → tm_w M_L_law d u0 Q u S n 1037 L r h)) := tm_r_ifne (off := 15) (by decide +kernel) rfl rfl
theorem ws_L_law_1037 : tm_s M_L_law d u0 Q u S n 1037 L st h = tm_gA L 3 (fun x => tm_w M_L_law d u0 Q u S n 1038 L (.ref x :: st) h) := tm_r_aload_n (i := 3) (by decide +kernel) rfl rfl
theorem ws_L_law_1038 : tm_s M_L_law d u0 Q u S n 1038 L st h = tm_w M_L_law d u0 Q u S n 1039 L (.int 0 :: st) h := tm_r_iconst (k := 0) (by decide +kernel) rfl (by decide)
theorem ws_L_law_1039 : tm_s M_L_law d u0 Q u S n 1039 L st h = tm_p1 st (fun i r => tm_pA r (fun a r => tm_cJ (h a) (fun k f => vp_in i k ∧ tm_w M_L_law d u0 Q u S n 1040 L (.long (f i.toNatClampNeg) :: r) h))) := tm_r_laload (by decide +kernel) rfl
theorem ws_L_law_1040 : tm_s M_L_law d u0 Q u S n 1040 L st h = tm_gI L 6 (fun x => tm_w M_L_law d u0 Q u S n 1042 L (.int x :: st) h) := tm_r_iload (j := 6) (by decide +kernel) rfl
theorem ws_L_law_1042 : tm_s M_L_law d u0 Q u S n 1042 L st h = tm_p1 st (fun x r => tm_w M_L_law d u0 Q u S n 1043 L (.long x.toInt64 :: r) h) := tm_r_i2l (by decide +kernel) rfl
theorem ws_L_law_1043 : tm_s M_L_law d u0 Q u S n 1043 L st h = tm_pJ st (fun y r => tm_pJ r (fun x r => tm_w M_L_law d u0 Q u S n 1044 L (.int (lg_cmp x y) :: r) h)) := tm_r_lcmp (by decide +kernel) rfl
theorem ws_L_law_1044 : tm_s M_L_law d u0 Q u S n 1044 L st h = tm_p1 st (fun x r => (x = 0 → tm_w M_L_law d u0 Q u S n 1049 L r h) ∧ (¬ x = 0 → tm_w M_L_law d u0 Q u S n 1047 L r h)) := tm_r_ifeq (off := 5) (by decide +kernel) rfl rfl
theorem ws_L_law_1047 : tm_s M_L_law d u0 Q u S n 1047 L st h = tm_w M_L_law d u0 Q u S n 1048 L (.int 0 :: st) h := tm_r_iconst (k := 0) (by decide +kernel) rfl (by decide)
theorem ws_L_law_1048 : tm_s M_L_law d u0 Q u S n 1048 L st h = tm_p1 st (fun x r => r = [] ∧ (x = 0 ∨ x = 1) ∧ Q (.inl (some (.int x))) h) := tm_r_zret (by decide +kernel) rfl
theorem ws_L_law_1049 : tm_s M_L_law d u0 Q u S n 1049 L st h = tm_w M_L_law d u0 Q u S n 1554 L st h := tm_r_goto (off := 505) (by decide +kernel) rfl
theorem ws_L_law_1052 : tm_s M_L_law d u0 Q u S n 1052 L st h = tm_gA L 1 (fun x => tm_w M_L_law d u0 Q u S n 1053 L (.ref x :: st) h) := tm_r_aload_n (i := 1) (by decide +kernel) rfl rfl
theorem ws_L_law_1053 : tm_s M_L_law d u0 Q u S n 1053 L st h = tm_gA L 0 (fun x => tm_w M_L_law d u0 Q u S n 1054 L (.ref x :: st) h) := tm_r_aload_n (i := 0) (by decide +kernel) rfl rfl
theorem ws_L_law_1054 : tm_s M_L_law d u0 Q u S n 1054 L st h = tm_gI L 4 (fun x => tm_w M_L_law d u0 Q u S n 1056 L (.int x :: st) h) := tm_r_iload (j := 4) (by decide +kernel) rfl
theorem ws_L_law_1056 : tm_s M_L_law d u0 Q u S n 1056 L st h = tm_w M_L_law d u0 Q u S n 1057 L (.int 1 :: st) h := tm_r_iconst (k := 1) (by decide +kernel) rfl (by decide)
theorem ws_L_law_1057 : tm_s M_L_law d u0 Q u S n 1057 L st h = tm_p1 st (fun y r => tm_p1 r (fun x r => tm_w M_L_law d u0 Q u S n 1058 L (.int (x + y) :: r) h)) := tm_r_iadd (by decide +kernel) rfl
theorem ws_L_law_1058 : tm_s M_L_law d u0 Q u S n 1058 L st h = tm_p1 st (fun i r => tm_pA r (fun a r => tm_cI (h a) (fun k f => vp_in i k ∧ tm_w M_L_law d u0 Q u S n 1059 L (.int (f i.toNatClampNeg) :: r) h))) := tm_r_iaload (by decide +kernel) rfl
theorem ws_L_law_1059 : tm_s M_L_law d u0 Q u S n 1059 L st h = tm_gA L 0 (fun x => tm_w M_L_law d u0 Q u S n 1060 L (.ref x :: st) h) := tm_r_aload_n (i := 0) (by decide +kernel) rfl rfl
theorem ws_L_law_1060 : tm_s M_L_law d u0 Q u S n 1060 L st h = tm_gI L 4 (fun x => tm_w M_L_law d u0 Q u S n 1062 L (.int x :: st) h) := tm_r_iload (j := 4) (by decide +kernel) rfl
theorem ws_L_law_1062 : tm_s M_L_law d u0 Q u S n 1062 L st h = tm_w M_L_law d u0 Q u S n 1063 L (.int 2 :: st) h := tm_r_iconst (k := 2) (by decide +kernel) rfl (by decide)
theorem ws_L_law_1063 : tm_s M_L_law d u0 Q u S n 1063 L st h = tm_p1 st (fun y r => tm_p1 r (fun x r => tm_w M_L_law d u0 Q u S n 1064 L (.int (x + y) :: r) h)) := tm_r_iadd (by decide +kernel) rfl
theorem ws_L_law_1064 : tm_s M_L_law d u0 Q u S n 1064 L st h = tm_p1 st (fun i r => tm_pA r (fun a r => tm_cI (h a) (fun k f => vp_in i k ∧ tm_w M_L_law d u0 Q u S n 1065 L (.int (f i.toNatClampNeg) :: r) h))) := tm_r_iaload (by decide +kernel) rfl
theorem ws_L_law_1065 : tm_s M_L_law d u0 Q u S n 1065 L st h = tm_gA L 3 (fun x => tm_w M_L_law d u0 Q u S n 1066 L (.ref x :: st) h) := tm_r_aload_n (i := 3) (by decide +kernel) rfl rfl
theorem dd_L_law_1066 : decode (tm_cc M_L_law) 1066 = .ok (.invokestatic 138, 3) := by decide +kernel
theorem ws_L_law_1066 : tm_s M_L_law d u0 Q u S n 1066 L st h = tm_T M_L_law d u0 Q u 1066 L st h := tm_r_invs dd_L_law_1066
theorem ws_L_law_1069 : tm_s M_L_law d u0 Q u S n 1069 L st h = tm_p1 st (fun x r => tm_w M_L_law d u0 Q u S n 1071 (L.set 5 (some (.int x))) r h) := tm_r_istore (j := 5) (by decide +kernel) rfl (by decide)
theorem ws_L_law_1071 : tm_s M_L_law d u0 Q u S n 1071 L st h = tm_gA L 2 (fun x => tm_w M_L_law d u0 Q u S n 1072 L (.ref x :: st) h) := tm_r_aload_n (i := 2) (by decide +kernel) rfl rfl
theorem ws_L_law_1072 : tm_s M_L_law d u0 Q u S n 1072 L st h = tm_gA L 0 (fun x => tm_w M_L_law d u0 Q u S n 1073 L (.ref x :: st) h) := tm_r_aload_n (i := 0) (by decide +kernel) rfl rfl
theorem ws_L_law_1073 : tm_s M_L_law d u0 Q u S n 1073 L st h = tm_gI L 4 (fun x => tm_w M_L_law d u0 Q u S n 1075 L (.int x :: st) h) := tm_r_iload (j := 4) (by decide +kernel) rfl
theorem ws_L_law_1075 : tm_s M_L_law d u0 Q u S n 1075 L st h = tm_w M_L_law d u0 Q u S n 1076 L (.int 1 :: st) h := tm_r_iconst (k := 1) (by decide +kernel) rfl (by decide)
theorem ws_L_law_1076 : tm_s M_L_law d u0 Q u S n 1076 L st h = tm_p1 st (fun y r => tm_p1 r (fun x r => tm_w M_L_law d u0 Q u S n 1077 L (.int (x + y) :: r) h)) := tm_r_iadd (by decide +kernel) rfl
theorem ws_L_law_1077 : tm_s M_L_law d u0 Q u S n 1077 L st h = tm_p1 st (fun i r => tm_pA r (fun a r => tm_cI (h a) (fun k f => vp_in i k ∧ tm_w M_L_law d u0 Q u S n 1078 L (.int (f i.toNatClampNeg) :: r) h))) := tm_r_iaload (by decide +kernel) rfl
theorem ws_L_law_1078 : tm_s M_L_law d u0 Q u S n 1078 L st h = tm_gA L 0 (fun x => tm_w M_L_law d u0 Q u S n 1079 L (.ref x :: st) h) := tm_r_aload_n (i := 0) (by decide +kernel) rfl rfl
theorem ws_L_law_1079 : tm_s M_L_law d u0 Q u S n 1079 L st h = tm_gI L 4 (fun x => tm_w M_L_law d u0 Q u S n 1081 L (.int x :: st) h) := tm_r_iload (j := 4) (by decide +kernel) rfl
theorem ws_L_law_1081 : tm_s M_L_law d u0 Q u S n 1081 L st h = tm_w M_L_law d u0 Q u S n 1082 L (.int 2 :: st) h := tm_r_iconst (k := 2) (by decide +kernel) rfl (by decide)
theorem ws_L_law_1082 : tm_s M_L_law d u0 Q u S n 1082 L st h = tm_p1 st (fun y r => tm_p1 r (fun x r => tm_w M_L_law d u0 Q u S n 1083 L (.int (x + y) :: r) h)) := tm_r_iadd (by decide +kernel) rfl
theorem ws_L_law_1083 : tm_s M_L_law d u0 Q u S n 1083 L st h = tm_p1 st (fun i r => tm_pA r (fun a r => tm_cI (h a) (fun k f => vp_in i k ∧ tm_w M_L_law d u0 Q u S n 1084 L (.int (f i.toNatClampNeg) :: r) h))) := tm_r_iaload (by decide +kernel) rfl
theorem dd_L_law_1084 : decode (tm_cc M_L_law) 1084 = .ok (.invokevirtual 140, 3) := by decide +kernel
theorem ws_L_law_1084 : tm_s M_L_law d u0 Q u S n 1084 L st h = tm_T M_L_law d u0 Q u 1084 L st h := tm_r_invv dd_L_law_1084
theorem ws_L_law_1087 : tm_s M_L_law d u0 Q u S n 1087 L st h = tm_p1 st (fun x r => tm_w M_L_law d u0 Q u S n 1089 (L.set 6 (some (.int x))) r h) := tm_r_istore (j := 6) (by decide +kernel) rfl (by decide)
theorem ws_L_law_1089 : tm_s M_L_law d u0 Q u S n 1089 L st h = tm_gA L 2 (fun x => tm_w M_L_law d u0 Q u S n 1090 L (.ref x :: st) h) := tm_r_aload_n (i := 2) (by decide +kernel) rfl rfl
theorem dd_L_law_1090 : decode (tm_cc M_L_law) 1090 = .ok (.invokevirtual 93, 3) := by decide +kernel
theorem ws_L_law_1090 : tm_s M_L_law d u0 Q u S n 1090 L st h = tm_T M_L_law d u0 Q u 1090 L st h := tm_r_invv dd_L_law_1090
theorem ws_L_law_1093 : tm_s M_L_law d u0 Q u S n 1093 L st h = tm_gI L 5 (fun x => tm_w M_L_law d u0 Q u S n 1095 L (.int x :: st) h) := tm_r_iload (j := 5) (by decide +kernel) rfl
theorem ws_L_law_1095 : tm_s M_L_law d u0 Q u S n 1095 L st h = tm_p1 st (fun y r => tm_p1 r (fun x r => (x = y → tm_w M_L_law d u0 Q u S n 1100 L r h) ∧ (¬ x = y → tm_w M_L_law d u0 Q u S n 1098 L r h))) := tm_r_iceq (off := 5) (by decide +kernel) rfl rfl
theorem ws_L_law_1098 : tm_s M_L_law d u0 Q u S n 1098 L st h = tm_w M_L_law d u0 Q u S n 1099 L (.int 0 :: st) h := tm_r_iconst (k := 0) (by decide +kernel) rfl (by decide)
theorem ws_L_law_1099 : tm_s M_L_law d u0 Q u S n 1099 L st h = tm_p1 st (fun x r => r = [] ∧ (x = 0 ∨ x = 1) ∧ Q (.inl (some (.int x))) h) := tm_r_zret (by decide +kernel) rfl
theorem ws_L_law_1100 : tm_s M_L_law d u0 Q u S n 1100 L st h = tm_gI L 5 (fun x => tm_w M_L_law d u0 Q u S n 1102 L (.int x :: st) h) := tm_r_iload (j := 5) (by decide +kernel) rfl
theorem ws_L_law_1102 : tm_s M_L_law d u0 Q u S n 1102 L st h = tm_p1 st (fun x r => (¬ x = 0 → tm_w M_L_law d u0 Q u S n 1117 L r h) ∧ (¬ ¬ x = 0 → tm_w M_L_law d u0 Q u S n 1105 L r h)) := tm_r_ifne (off := 15) (by decide +kernel) rfl rfl
theorem ws_L_law_1105 : tm_s M_L_law d u0 Q u S n 1105 L st h = tm_gA L 3 (fun x => tm_w M_L_law d u0 Q u S n 1106 L (.ref x :: st) h) := tm_r_aload_n (i := 3) (by decide +kernel) rfl rfl
theorem ws_L_law_1106 : tm_s M_L_law d u0 Q u S n 1106 L st h = tm_w M_L_law d u0 Q u S n 1107 L (.int 0 :: st) h := tm_r_iconst (k := 0) (by decide +kernel) rfl (by decide)
theorem ws_L_law_1107 : tm_s M_L_law d u0 Q u S n 1107 L st h = tm_p1 st (fun i r => tm_pA r (fun a r => tm_cJ (h a) (fun k f => vp_in i k ∧ tm_w M_L_law d u0 Q u S n 1108 L (.long (f i.toNatClampNeg) :: r) h))) := tm_r_laload (by decide +kernel) rfl
theorem ws_L_law_1108 : tm_s M_L_law d u0 Q u S n 1108 L st h = tm_gI L 6 (fun x => tm_w M_L_law d u0 Q u S n 1110 L (.int x :: st) h) := tm_r_iload (j := 6) (by decide +kernel) rfl
theorem ws_L_law_1110 : tm_s M_L_law d u0 Q u S n 1110 L st h = tm_p1 st (fun x r => tm_w M_L_law d u0 Q u S n 1111 L (.long x.toInt64 :: r) h) := tm_r_i2l (by decide +kernel) rfl
theorem ws_L_law_1111 : tm_s M_L_law d u0 Q u S n 1111 L st h = tm_pJ st (fun y r => tm_pJ r (fun x r => tm_w M_L_law d u0 Q u S n 1112 L (.int (lg_cmp x y) :: r) h)) := tm_r_lcmp (by decide +kernel) rfl
theorem ws_L_law_1112 : tm_s M_L_law d u0 Q u S n 1112 L st h = tm_p1 st (fun x r => (x = 0 → tm_w M_L_law d u0 Q u S n 1117 L r h) ∧ (¬ x = 0 → tm_w M_L_law d u0 Q u S n 1115 L r h)) := tm_r_ifeq (off := 5) (by decide +kernel) rfl rfl
theorem ws_L_law_1115 : tm_s M_L_law d u0 Q u S n 1115 L st h = tm_w M_L_law d u0 Q u S n 1116 L (.int 0 :: st) h := tm_r_iconst (k := 0) (by decide +kernel) rfl (by decide)
theorem ws_L_law_1116 : tm_s M_L_law d u0 Q u S n 1116 L st h = tm_p1 st (fun x r => r = [] ∧ (x = 0 ∨ x = 1) ∧ Q (.inl (some (.int x))) h) := tm_r_zret (by decide +kernel) rfl
theorem ws_L_law_1117 : tm_s M_L_law d u0 Q u S n 1117 L st h = tm_w M_L_law d u0 Q u S n 1554 L st h := tm_r_goto (off := 437) (by decide +kernel) rfl
theorem ws_L_law_1120 : tm_s M_L_law d u0 Q u S n 1120 L st h = tm_gA L 1 (fun x => tm_w M_L_law d u0 Q u S n 1121 L (.ref x :: st) h) := tm_r_aload_n (i := 1) (by decide +kernel) rfl rfl
theorem ws_L_law_1121 : tm_s M_L_law d u0 Q u S n 1121 L st h = tm_gA L 0 (fun x => tm_w M_L_law d u0 Q u S n 1122 L (.ref x :: st) h) := tm_r_aload_n (i := 0) (by decide +kernel) rfl rfl
theorem ws_L_law_1122 : tm_s M_L_law d u0 Q u S n 1122 L st h = tm_gI L 4 (fun x => tm_w M_L_law d u0 Q u S n 1124 L (.int x :: st) h) := tm_r_iload (j := 4) (by decide +kernel) rfl
theorem ws_L_law_1124 : tm_s M_L_law d u0 Q u S n 1124 L st h = tm_w M_L_law d u0 Q u S n 1125 L (.int 1 :: st) h := tm_r_iconst (k := 1) (by decide +kernel) rfl (by decide)
theorem ws_L_law_1125 : tm_s M_L_law d u0 Q u S n 1125 L st h = tm_p1 st (fun y r => tm_p1 r (fun x r => tm_w M_L_law d u0 Q u S n 1126 L (.int (x + y) :: r) h)) := tm_r_iadd (by decide +kernel) rfl
theorem ws_L_law_1126 : tm_s M_L_law d u0 Q u S n 1126 L st h = tm_p1 st (fun i r => tm_pA r (fun a r => tm_cI (h a) (fun k f => vp_in i k ∧ tm_w M_L_law d u0 Q u S n 1127 L (.int (f i.toNatClampNeg) :: r) h))) := tm_r_iaload (by decide +kernel) rfl
theorem ws_L_law_1127 : tm_s M_L_law d u0 Q u S n 1127 L st h = tm_gA L 3 (fun x => tm_w M_L_law d u0 Q u S n 1128 L (.ref x :: st) h) := tm_r_aload_n (i := 3) (by decide +kernel) rfl rfl
theorem dd_L_law_1128 : decode (tm_cc M_L_law) 1128 = .ok (.invokestatic 141, 3) := by decide +kernel
theorem ws_L_law_1128 : tm_s M_L_law d u0 Q u S n 1128 L st h = tm_T M_L_law d u0 Q u 1128 L st h := tm_r_invs dd_L_law_1128
theorem ws_L_law_1131 : tm_s M_L_law d u0 Q u S n 1131 L st h = tm_p1 st (fun x r => tm_w M_L_law d u0 Q u S n 1133 (L.set 5 (some (.int x))) r h) := tm_r_istore (j := 5) (by decide +kernel) rfl (by decide)
theorem ws_L_law_1133 : tm_s M_L_law d u0 Q u S n 1133 L st h = tm_gA L 2 (fun x => tm_w M_L_law d u0 Q u S n 1134 L (.ref x :: st) h) := tm_r_aload_n (i := 2) (by decide +kernel) rfl rfl
theorem ws_L_law_1134 : tm_s M_L_law d u0 Q u S n 1134 L st h = tm_gA L 0 (fun x => tm_w M_L_law d u0 Q u S n 1135 L (.ref x :: st) h) := tm_r_aload_n (i := 0) (by decide +kernel) rfl rfl
theorem ws_L_law_1135 : tm_s M_L_law d u0 Q u S n 1135 L st h = tm_gI L 4 (fun x => tm_w M_L_law d u0 Q u S n 1137 L (.int x :: st) h) := tm_r_iload (j := 4) (by decide +kernel) rfl
theorem ws_L_law_1137 : tm_s M_L_law d u0 Q u S n 1137 L st h = tm_w M_L_law d u0 Q u S n 1138 L (.int 1 :: st) h := tm_r_iconst (k := 1) (by decide +kernel) rfl (by decide)
theorem ws_L_law_1138 : tm_s M_L_law d u0 Q u S n 1138 L st h = tm_p1 st (fun y r => tm_p1 r (fun x r => tm_w M_L_law d u0 Q u S n 1139 L (.int (x + y) :: r) h)) := tm_r_iadd (by decide +kernel) rfl
theorem ws_L_law_1139 : tm_s M_L_law d u0 Q u S n 1139 L st h = tm_p1 st (fun i r => tm_pA r (fun a r => tm_cI (h a) (fun k f => vp_in i k ∧ tm_w M_L_law d u0 Q u S n 1140 L (.int (f i.toNatClampNeg) :: r) h))) := tm_r_iaload (by decide +kernel) rfl
theorem dd_L_law_1140 : decode (tm_cc M_L_law) 1140 = .ok (.invokevirtual 143, 3) := by decide +kernel
theorem ws_L_law_1140 : tm_s M_L_law d u0 Q u S n 1140 L st h = tm_T M_L_law d u0 Q u 1140 L st h := tm_r_invv dd_L_law_1140
theorem ws_L_law_1143 : tm_s M_L_law d u0 Q u S n 1143 L st h = tm_p1 st (fun x r => tm_w M_L_law d u0 Q u S n 1145 (L.set 6 (some (.int x))) r h) := tm_r_istore (j := 6) (by decide +kernel) rfl (by decide)
theorem ws_L_law_1145 : tm_s M_L_law d u0 Q u S n 1145 L st h = tm_gA L 2 (fun x => tm_w M_L_law d u0 Q u S n 1146 L (.ref x :: st) h) := tm_r_aload_n (i := 2) (by decide +kernel) rfl rfl
theorem dd_L_law_1146 : decode (tm_cc M_L_law) 1146 = .ok (.invokevirtual 93, 3) := by decide +kernel
theorem ws_L_law_1146 : tm_s M_L_law d u0 Q u S n 1146 L st h = tm_T M_L_law d u0 Q u 1146 L st h := tm_r_invv dd_L_law_1146
theorem ws_L_law_1149 : tm_s M_L_law d u0 Q u S n 1149 L st h = tm_gI L 5 (fun x => tm_w M_L_law d u0 Q u S n 1151 L (.int x :: st) h) := tm_r_iload (j := 5) (by decide +kernel) rfl
theorem ws_L_law_1151 : tm_s M_L_law d u0 Q u S n 1151 L st h = tm_p1 st (fun y r => tm_p1 r (fun x r => (x = y → tm_w M_L_law d u0 Q u S n 1156 L r h) ∧ (¬ x = y → tm_w M_L_law d u0 Q u S n 1154 L r h))) := tm_r_iceq (off := 5) (by decide +kernel) rfl rfl
theorem ws_L_law_1154 : tm_s M_L_law d u0 Q u S n 1154 L st h = tm_w M_L_law d u0 Q u S n 1155 L (.int 0 :: st) h := tm_r_iconst (k := 0) (by decide +kernel) rfl (by decide)
theorem ws_L_law_1155 : tm_s M_L_law d u0 Q u S n 1155 L st h = tm_p1 st (fun x r => r = [] ∧ (x = 0 ∨ x = 1) ∧ Q (.inl (some (.int x))) h) := tm_r_zret (by decide +kernel) rfl
theorem ws_L_law_1156 : tm_s M_L_law d u0 Q u S n 1156 L st h = tm_gI L 5 (fun x => tm_w M_L_law d u0 Q u S n 1158 L (.int x :: st) h) := tm_r_iload (j := 5) (by decide +kernel) rfl
theorem ws_L_law_1158 : tm_s M_L_law d u0 Q u S n 1158 L st h = tm_p1 st (fun x r => (¬ x = 0 → tm_w M_L_law d u0 Q u S n 1173 L r h) ∧ (¬ ¬ x = 0 → tm_w M_L_law d u0 Q u S n 1161 L r h)) := tm_r_ifne (off := 15) (by decide +kernel) rfl rfl
theorem ws_L_law_1161 : tm_s M_L_law d u0 Q u S n 1161 L st h = tm_gA L 3 (fun x => tm_w M_L_law d u0 Q u S n 1162 L (.ref x :: st) h) := tm_r_aload_n (i := 3) (by decide +kernel) rfl rfl
theorem ws_L_law_1162 : tm_s M_L_law d u0 Q u S n 1162 L st h = tm_w M_L_law d u0 Q u S n 1163 L (.int 0 :: st) h := tm_r_iconst (k := 0) (by decide +kernel) rfl (by decide)
theorem ws_L_law_1163 : tm_s M_L_law d u0 Q u S n 1163 L st h = tm_p1 st (fun i r => tm_pA r (fun a r => tm_cJ (h a) (fun k f => vp_in i k ∧ tm_w M_L_law d u0 Q u S n 1164 L (.long (f i.toNatClampNeg) :: r) h))) := tm_r_laload (by decide +kernel) rfl
theorem ws_L_law_1164 : tm_s M_L_law d u0 Q u S n 1164 L st h = tm_gI L 6 (fun x => tm_w M_L_law d u0 Q u S n 1166 L (.int x :: st) h) := tm_r_iload (j := 6) (by decide +kernel) rfl
theorem ws_L_law_1166 : tm_s M_L_law d u0 Q u S n 1166 L st h = tm_p1 st (fun x r => tm_w M_L_law d u0 Q u S n 1167 L (.long x.toInt64 :: r) h) := tm_r_i2l (by decide +kernel) rfl
theorem ws_L_law_1167 : tm_s M_L_law d u0 Q u S n 1167 L st h = tm_pJ st (fun y r => tm_pJ r (fun x r => tm_w M_L_law d u0 Q u S n 1168 L (.int (lg_cmp x y) :: r) h)) := tm_r_lcmp (by decide +kernel) rfl
theorem ws_L_law_1168 : tm_s M_L_law d u0 Q u S n 1168 L st h = tm_p1 st (fun x r => (x = 0 → tm_w M_L_law d u0 Q u S n 1173 L r h) ∧ (¬ x = 0 → tm_w M_L_law d u0 Q u S n 1171 L r h)) := tm_r_ifeq (off := 5) (by decide +kernel) rfl rfl
theorem ws_L_law_1171 : tm_s M_L_law d u0 Q u S n 1171 L st h = tm_w M_L_law d u0 Q u S n 1172 L (.int 0 :: st) h := tm_r_iconst (k := 0) (by decide +kernel) rfl (by decide)
theorem ws_L_law_1172 : tm_s M_L_law d u0 Q u S n 1172 L st h = tm_p1 st (fun x r => r = [] ∧ (x = 0 ∨ x = 1) ∧ Q (.inl (some (.int x))) h) := tm_r_zret (by decide +kernel) rfl
theorem ws_L_law_1173 : tm_s M_L_law d u0 Q u S n 1173 L st h = tm_w M_L_law d u0 Q u S n 1554 L st h := tm_r_goto (off := 381) (by decide +kernel) rfl
theorem ws_L_law_1176 : tm_s M_L_law d u0 Q u S n 1176 L st h = tm_gA L 1 (fun x => tm_w M_L_law d u0 Q u S n 1177 L (.ref x :: st) h) := tm_r_aload_n (i := 1) (by decide +kernel) rfl rfl
theorem ws_L_law_1177 : tm_s M_L_law d u0 Q u S n 1177 L st h = tm_gA L 0 (fun x => tm_w M_L_law d u0 Q u S n 1178 L (.ref x :: st) h) := tm_r_aload_n (i := 0) (by decide +kernel) rfl rfl
theorem ws_L_law_1178 : tm_s M_L_law d u0 Q u S n 1178 L st h = tm_gI L 4 (fun x => tm_w M_L_law d u0 Q u S n 1180 L (.int x :: st) h) := tm_r_iload (j := 4) (by decide +kernel) rfl
theorem ws_L_law_1180 : tm_s M_L_law d u0 Q u S n 1180 L st h = tm_w M_L_law d u0 Q u S n 1181 L (.int 1 :: st) h := tm_r_iconst (k := 1) (by decide +kernel) rfl (by decide)
theorem ws_L_law_1181 : tm_s M_L_law d u0 Q u S n 1181 L st h = tm_p1 st (fun y r => tm_p1 r (fun x r => tm_w M_L_law d u0 Q u S n 1182 L (.int (x + y) :: r) h)) := tm_r_iadd (by decide +kernel) rfl
theorem ws_L_law_1182 : tm_s M_L_law d u0 Q u S n 1182 L st h = tm_p1 st (fun i r => tm_pA r (fun a r => tm_cI (h a) (fun k f => vp_in i k ∧ tm_w M_L_law d u0 Q u S n 1183 L (.int (f i.toNatClampNeg) :: r) h))) := tm_r_iaload (by decide +kernel) rfl
theorem ws_L_law_1183 : tm_s M_L_law d u0 Q u S n 1183 L st h = tm_gA L 0 (fun x => tm_w M_L_law d u0 Q u S n 1184 L (.ref x :: st) h) := tm_r_aload_n (i := 0) (by decide +kernel) rfl rfl
theorem ws_L_law_1184 : tm_s M_L_law d u0 Q u S n 1184 L st h = tm_gI L 4 (fun x => tm_w M_L_law d u0 Q u S n 1186 L (.int x :: st) h) := tm_r_iload (j := 4) (by decide +kernel) rfl
theorem ws_L_law_1186 : tm_s M_L_law d u0 Q u S n 1186 L st h = tm_w M_L_law d u0 Q u S n 1187 L (.int 2 :: st) h := tm_r_iconst (k := 2) (by decide +kernel) rfl (by decide)
theorem ws_L_law_1187 : tm_s M_L_law d u0 Q u S n 1187 L st h = tm_p1 st (fun y r => tm_p1 r (fun x r => tm_w M_L_law d u0 Q u S n 1188 L (.int (x + y) :: r) h)) := tm_r_iadd (by decide +kernel) rfl
theorem ws_L_law_1188 : tm_s M_L_law d u0 Q u S n 1188 L st h = tm_p1 st (fun i r => tm_pA r (fun a r => tm_cI (h a) (fun k f => vp_in i k ∧ tm_w M_L_law d u0 Q u S n 1189 L (.int (f i.toNatClampNeg) :: r) h))) := tm_r_iaload (by decide +kernel) rfl
theorem ws_L_law_1189 : tm_s M_L_law d u0 Q u S n 1189 L st h = tm_gA L 3 (fun x => tm_w M_L_law d u0 Q u S n 1190 L (.ref x :: st) h) := tm_r_aload_n (i := 3) (by decide +kernel) rfl rfl
theorem dd_L_law_1190 : decode (tm_cc M_L_law) 1190 = .ok (.invokestatic 144, 3) := by decide +kernel
theorem ws_L_law_1190 : tm_s M_L_law d u0 Q u S n 1190 L st h = tm_T M_L_law d u0 Q u 1190 L st h := tm_r_invs dd_L_law_1190
theorem ws_L_law_1193 : tm_s M_L_law d u0 Q u S n 1193 L st h = tm_p1 st (fun x r => tm_w M_L_law d u0 Q u S n 1195 (L.set 5 (some (.int x))) r h) := tm_r_istore (j := 5) (by decide +kernel) rfl (by decide)
theorem ws_L_law_1195 : tm_s M_L_law d u0 Q u S n 1195 L st h = tm_gA L 2 (fun x => tm_w M_L_law d u0 Q u S n 1196 L (.ref x :: st) h) := tm_r_aload_n (i := 2) (by decide +kernel) rfl rfl
theorem ws_L_law_1196 : tm_s M_L_law d u0 Q u S n 1196 L st h = tm_gA L 0 (fun x => tm_w M_L_law d u0 Q u S n 1197 L (.ref x :: st) h) := tm_r_aload_n (i := 0) (by decide +kernel) rfl rfl
theorem ws_L_law_1197 : tm_s M_L_law d u0 Q u S n 1197 L st h = tm_gI L 4 (fun x => tm_w M_L_law d u0 Q u S n 1199 L (.int x :: st) h) := tm_r_iload (j := 4) (by decide +kernel) rfl
theorem ws_L_law_1199 : tm_s M_L_law d u0 Q u S n 1199 L st h = tm_w M_L_law d u0 Q u S n 1200 L (.int 1 :: st) h := tm_r_iconst (k := 1) (by decide +kernel) rfl (by decide)
theorem ws_L_law_1200 : tm_s M_L_law d u0 Q u S n 1200 L st h = tm_p1 st (fun y r => tm_p1 r (fun x r => tm_w M_L_law d u0 Q u S n 1201 L (.int (x + y) :: r) h)) := tm_r_iadd (by decide +kernel) rfl
theorem ws_L_law_1201 : tm_s M_L_law d u0 Q u S n 1201 L st h = tm_p1 st (fun i r => tm_pA r (fun a r => tm_cI (h a) (fun k f => vp_in i k ∧ tm_w M_L_law d u0 Q u S n 1202 L (.int (f i.toNatClampNeg) :: r) h))) := tm_r_iaload (by decide +kernel) rfl
theorem ws_L_law_1202 : tm_s M_L_law d u0 Q u S n 1202 L st h = tm_gA L 0 (fun x => tm_w M_L_law d u0 Q u S n 1203 L (.ref x :: st) h) := tm_r_aload_n (i := 0) (by decide +kernel) rfl rfl
theorem ws_L_law_1203 : tm_s M_L_law d u0 Q u S n 1203 L st h = tm_gI L 4 (fun x => tm_w M_L_law d u0 Q u S n 1205 L (.int x :: st) h) := tm_r_iload (j := 4) (by decide +kernel) rfl
theorem ws_L_law_1205 : tm_s M_L_law d u0 Q u S n 1205 L st h = tm_w M_L_law d u0 Q u S n 1206 L (.int 2 :: st) h := tm_r_iconst (k := 2) (by decide +kernel) rfl (by decide)
theorem ws_L_law_1206 : tm_s M_L_law d u0 Q u S n 1206 L st h = tm_p1 st (fun y r => tm_p1 r (fun x r => tm_w M_L_law d u0 Q u S n 1207 L (.int (x + y) :: r) h)) := tm_r_iadd (by decide +kernel) rfl
theorem ws_L_law_1207 : tm_s M_L_law d u0 Q u S n 1207 L st h = tm_p1 st (fun i r => tm_pA r (fun a r => tm_cI (h a) (fun k f => vp_in i k ∧ tm_w M_L_law d u0 Q u S n 1208 L (.int (f i.toNatClampNeg) :: r) h))) := tm_r_iaload (by decide +kernel) rfl
theorem dd_L_law_1208 : decode (tm_cc M_L_law) 1208 = .ok (.invokevirtual 146, 3) := by decide +kernel
theorem ws_L_law_1208 : tm_s M_L_law d u0 Q u S n 1208 L st h = tm_T M_L_law d u0 Q u 1208 L st h := tm_r_invv dd_L_law_1208
theorem ws_L_law_1211 : tm_s M_L_law d u0 Q u S n 1211 L st h = tm_p1 st (fun x r => tm_w M_L_law d u0 Q u S n 1213 (L.set 6 (some (.int x))) r h) := tm_r_istore (j := 6) (by decide +kernel) rfl (by decide)
theorem ws_L_law_1213 : tm_s M_L_law d u0 Q u S n 1213 L st h = tm_gA L 2 (fun x => tm_w M_L_law d u0 Q u S n 1214 L (.ref x :: st) h) := tm_r_aload_n (i := 2) (by decide +kernel) rfl rfl
theorem dd_L_law_1214 : decode (tm_cc M_L_law) 1214 = .ok (.invokevirtual 93, 3) := by decide +kernel
theorem ws_L_law_1214 : tm_s M_L_law d u0 Q u S n 1214 L st h = tm_T M_L_law d u0 Q u 1214 L st h := tm_r_invv dd_L_law_1214
theorem ws_L_law_1217 : tm_s M_L_law d u0 Q u S n 1217 L st h = tm_gI L 5 (fun x => tm_w M_L_law d u0 Q u S n 1219 L (.int x :: st) h) := tm_r_iload (j := 5) (by decide +kernel) rfl
theorem ws_L_law_1219 : tm_s M_L_law d u0 Q u S n 1219 L st h = tm_p1 st (fun y r => tm_p1 r (fun x r => (x = y → tm_w M_L_law d u0 Q u S n 1224 L r h) ∧ (¬ x = y → tm_w M_L_law d u0 Q u S n 1222 L r h))) := tm_r_iceq (off := 5) (by decide +kernel) rfl rfl
theorem ws_L_law_1222 : tm_s M_L_law d u0 Q u S n 1222 L st h = tm_w M_L_law d u0 Q u S n 1223 L (.int 0 :: st) h := tm_r_iconst (k := 0) (by decide +kernel) rfl (by decide)
theorem ws_L_law_1223 : tm_s M_L_law d u0 Q u S n 1223 L st h = tm_p1 st (fun x r => r = [] ∧ (x = 0 ∨ x = 1) ∧ Q (.inl (some (.int x))) h) := tm_r_zret (by decide +kernel) rfl
theorem ws_L_law_1224 : tm_s M_L_law d u0 Q u S n 1224 L st h = tm_gI L 5 (fun x => tm_w M_L_law d u0 Q u S n 1226 L (.int x :: st) h) := tm_r_iload (j := 5) (by decide +kernel) rfl
theorem ws_L_law_1226 : tm_s M_L_law d u0 Q u S n 1226 L st h = tm_p1 st (fun x r => (¬ x = 0 → tm_w M_L_law d u0 Q u S n 1241 L r h) ∧ (¬ ¬ x = 0 → tm_w M_L_law d u0 Q u S n 1229 L r h)) := tm_r_ifne (off := 15) (by decide +kernel) rfl rfl
theorem ws_L_law_1229 : tm_s M_L_law d u0 Q u S n 1229 L st h = tm_gA L 3 (fun x => tm_w M_L_law d u0 Q u S n 1230 L (.ref x :: st) h) := tm_r_aload_n (i := 3) (by decide +kernel) rfl rfl
theorem ws_L_law_1230 : tm_s M_L_law d u0 Q u S n 1230 L st h = tm_w M_L_law d u0 Q u S n 1231 L (.int 0 :: st) h := tm_r_iconst (k := 0) (by decide +kernel) rfl (by decide)
theorem ws_L_law_1231 : tm_s M_L_law d u0 Q u S n 1231 L st h = tm_p1 st (fun i r => tm_pA r (fun a r => tm_cJ (h a) (fun k f => vp_in i k ∧ tm_w M_L_law d u0 Q u S n 1232 L (.long (f i.toNatClampNeg) :: r) h))) := tm_r_laload (by decide +kernel) rfl
theorem ws_L_law_1232 : tm_s M_L_law d u0 Q u S n 1232 L st h = tm_gI L 6 (fun x => tm_w M_L_law d u0 Q u S n 1234 L (.int x :: st) h) := tm_r_iload (j := 6) (by decide +kernel) rfl
theorem ws_L_law_1234 : tm_s M_L_law d u0 Q u S n 1234 L st h = tm_p1 st (fun x r => tm_w M_L_law d u0 Q u S n 1235 L (.long x.toInt64 :: r) h) := tm_r_i2l (by decide +kernel) rfl
theorem ws_L_law_1235 : tm_s M_L_law d u0 Q u S n 1235 L st h = tm_pJ st (fun y r => tm_pJ r (fun x r => tm_w M_L_law d u0 Q u S n 1236 L (.int (lg_cmp x y) :: r) h)) := tm_r_lcmp (by decide +kernel) rfl
theorem ws_L_law_1236 : tm_s M_L_law d u0 Q u S n 1236 L st h = tm_p1 st (fun x r => (x = 0 → tm_w M_L_law d u0 Q u S n 1241 L r h) ∧ (¬ x = 0 → tm_w M_L_law d u0 Q u S n 1239 L r h)) := tm_r_ifeq (off := 5) (by decide +kernel) rfl rfl
theorem ws_L_law_1239 : tm_s M_L_law d u0 Q u S n 1239 L st h = tm_w M_L_law d u0 Q u S n 1240 L (.int 0 :: st) h := tm_r_iconst (k := 0) (by decide +kernel) rfl (by decide)
theorem ws_L_law_1240 : tm_s M_L_law d u0 Q u S n 1240 L st h = tm_p1 st (fun x r => r = [] ∧ (x = 0 ∨ x = 1) ∧ Q (.inl (some (.int x))) h) := tm_r_zret (by decide +kernel) rfl
theorem ws_L_law_1241 : tm_s M_L_law d u0 Q u S n 1241 L st h = tm_w M_L_law d u0 Q u S n 1554 L st h := tm_r_goto (off := 313) (by decide +kernel) rfl
theorem ws_L_law_1244 : tm_s M_L_law d u0 Q u S n 1244 L st h = tm_gA L 1 (fun x => tm_w M_L_law d u0 Q u S n 1245 L (.ref x :: st) h) := tm_r_aload_n (i := 1) (by decide +kernel) rfl rfl
theorem ws_L_law_1245 : tm_s M_L_law d u0 Q u S n 1245 L st h = tm_gA L 0 (fun x => tm_w M_L_law d u0 Q u S n 1246 L (.ref x :: st) h) := tm_r_aload_n (i := 0) (by decide +kernel) rfl rfl
theorem ws_L_law_1246 : tm_s M_L_law d u0 Q u S n 1246 L st h = tm_gI L 4 (fun x => tm_w M_L_law d u0 Q u S n 1248 L (.int x :: st) h) := tm_r_iload (j := 4) (by decide +kernel) rfl
theorem ws_L_law_1248 : tm_s M_L_law d u0 Q u S n 1248 L st h = tm_w M_L_law d u0 Q u S n 1249 L (.int 1 :: st) h := tm_r_iconst (k := 1) (by decide +kernel) rfl (by decide)
theorem ws_L_law_1249 : tm_s M_L_law d u0 Q u S n 1249 L st h = tm_p1 st (fun y r => tm_p1 r (fun x r => tm_w M_L_law d u0 Q u S n 1250 L (.int (x + y) :: r) h)) := tm_r_iadd (by decide +kernel) rfl
theorem ws_L_law_1250 : tm_s M_L_law d u0 Q u S n 1250 L st h = tm_p1 st (fun i r => tm_pA r (fun a r => tm_cI (h a) (fun k f => vp_in i k ∧ tm_w M_L_law d u0 Q u S n 1251 L (.int (f i.toNatClampNeg) :: r) h))) := tm_r_iaload (by decide +kernel) rfl
theorem ws_L_law_1251 : tm_s M_L_law d u0 Q u S n 1251 L st h = tm_gA L 3 (fun x => tm_w M_L_law d u0 Q u S n 1252 L (.ref x :: st) h) := tm_r_aload_n (i := 3) (by decide +kernel) rfl rfl
theorem dd_L_law_1252 : decode (tm_cc M_L_law) 1252 = .ok (.invokestatic 147, 3) := by decide +kernel
theorem ws_L_law_1252 : tm_s M_L_law d u0 Q u S n 1252 L st h = tm_T M_L_law d u0 Q u 1252 L st h := tm_r_invs dd_L_law_1252
theorem ws_L_law_1255 : tm_s M_L_law d u0 Q u S n 1255 L st h = tm_p1 st (fun x r => tm_w M_L_law d u0 Q u S n 1257 (L.set 5 (some (.int x))) r h) := tm_r_istore (j := 5) (by decide +kernel) rfl (by decide)
theorem ws_L_law_1257 : tm_s M_L_law d u0 Q u S n 1257 L st h = tm_gA L 2 (fun x => tm_w M_L_law d u0 Q u S n 1258 L (.ref x :: st) h) := tm_r_aload_n (i := 2) (by decide +kernel) rfl rfl
theorem ws_L_law_1258 : tm_s M_L_law d u0 Q u S n 1258 L st h = tm_gA L 0 (fun x => tm_w M_L_law d u0 Q u S n 1259 L (.ref x :: st) h) := tm_r_aload_n (i := 0) (by decide +kernel) rfl rfl
theorem ws_L_law_1259 : tm_s M_L_law d u0 Q u S n 1259 L st h = tm_gI L 4 (fun x => tm_w M_L_law d u0 Q u S n 1261 L (.int x :: st) h) := tm_r_iload (j := 4) (by decide +kernel) rfl
theorem ws_L_law_1261 : tm_s M_L_law d u0 Q u S n 1261 L st h = tm_w M_L_law d u0 Q u S n 1262 L (.int 1 :: st) h := tm_r_iconst (k := 1) (by decide +kernel) rfl (by decide)
theorem ws_L_law_1262 : tm_s M_L_law d u0 Q u S n 1262 L st h = tm_p1 st (fun y r => tm_p1 r (fun x r => tm_w M_L_law d u0 Q u S n 1263 L (.int (x + y) :: r) h)) := tm_r_iadd (by decide +kernel) rfl
theorem ws_L_law_1263 : tm_s M_L_law d u0 Q u S n 1263 L st h = tm_p1 st (fun i r => tm_pA r (fun a r => tm_cI (h a) (fun k f => vp_in i k ∧ tm_w M_L_law d u0 Q u S n 1264 L (.int (f i.toNatClampNeg) :: r) h))) := tm_r_iaload (by decide +kernel) rfl
theorem dd_L_law_1264 : decode (tm_cc M_L_law) 1264 = .ok (.invokevirtual 149, 3) := by decide +kernel
theorem ws_L_law_1264 : tm_s M_L_law d u0 Q u S n 1264 L st h = tm_T M_L_law d u0 Q u 1264 L st h := tm_r_invv dd_L_law_1264
theorem ws_L_law_1267 : tm_s M_L_law d u0 Q u S n 1267 L st h = tm_p1 st (fun x r => tm_w M_L_law d u0 Q u S n 1269 (L.set 6 (some (.int x))) r h) := tm_r_istore (j := 6) (by decide +kernel) rfl (by decide)
theorem ws_L_law_1269 : tm_s M_L_law d u0 Q u S n 1269 L st h = tm_gA L 2 (fun x => tm_w M_L_law d u0 Q u S n 1270 L (.ref x :: st) h) := tm_r_aload_n (i := 2) (by decide +kernel) rfl rfl
theorem dd_L_law_1270 : decode (tm_cc M_L_law) 1270 = .ok (.invokevirtual 93, 3) := by decide +kernel
theorem ws_L_law_1270 : tm_s M_L_law d u0 Q u S n 1270 L st h = tm_T M_L_law d u0 Q u 1270 L st h := tm_r_invv dd_L_law_1270
theorem ws_L_law_1273 : tm_s M_L_law d u0 Q u S n 1273 L st h = tm_gI L 5 (fun x => tm_w M_L_law d u0 Q u S n 1275 L (.int x :: st) h) := tm_r_iload (j := 5) (by decide +kernel) rfl
theorem ws_L_law_1275 : tm_s M_L_law d u0 Q u S n 1275 L st h = tm_p1 st (fun y r => tm_p1 r (fun x r => (x = y → tm_w M_L_law d u0 Q u S n 1280 L r h) ∧ (¬ x = y → tm_w M_L_law d u0 Q u S n 1278 L r h))) := tm_r_iceq (off := 5) (by decide +kernel) rfl rfl
theorem ws_L_law_1278 : tm_s M_L_law d u0 Q u S n 1278 L st h = tm_w M_L_law d u0 Q u S n 1279 L (.int 0 :: st) h := tm_r_iconst (k := 0) (by decide +kernel) rfl (by decide)
theorem ws_L_law_1279 : tm_s M_L_law d u0 Q u S n 1279 L st h = tm_p1 st (fun x r => r = [] ∧ (x = 0 ∨ x = 1) ∧ Q (.inl (some (.int x))) h) := tm_r_zret (by decide +kernel) rfl
theorem ws_L_law_1280 : tm_s M_L_law d u0 Q u S n 1280 L st h = tm_gI L 5 (fun x => tm_w M_L_law d u0 Q u S n 1282 L (.int x :: st) h) := tm_r_iload (j := 5) (by decide +kernel) rfl
theorem ws_L_law_1282 : tm_s M_L_law d u0 Q u S n 1282 L st h = tm_p1 st (fun x r => (¬ x = 0 → tm_w M_L_law d u0 Q u S n 1297 L r h) ∧ (¬ ¬ x = 0 → tm_w M_L_law d u0 Q u S n 1285 L r h)) := tm_r_ifne (off := 15) (by decide +kernel) rfl rfl
theorem ws_L_law_1285 : tm_s M_L_law d u0 Q u S n 1285 L st h = tm_gA L 3 (fun x => tm_w M_L_law d u0 Q u S n 1286 L (.ref x :: st) h) := tm_r_aload_n (i := 3) (by decide +kernel) rfl rfl
theorem ws_L_law_1286 : tm_s M_L_law d u0 Q u S n 1286 L st h = tm_w M_L_law d u0 Q u S n 1287 L (.int 0 :: st) h := tm_r_iconst (k := 0) (by decide +kernel) rfl (by decide)
theorem ws_L_law_1287 : tm_s M_L_law d u0 Q u S n 1287 L st h = tm_p1 st (fun i r => tm_pA r (fun a r => tm_cJ (h a) (fun k f => vp_in i k ∧ tm_w M_L_law d u0 Q u S n 1288 L (.long (f i.toNatClampNeg) :: r) h))) := tm_r_laload (by decide +kernel) rfl
theorem ws_L_law_1288 : tm_s M_L_law d u0 Q u S n 1288 L st h = tm_gI L 6 (fun x => tm_w M_L_law d u0 Q u S n 1290 L (.int x :: st) h) := tm_r_iload (j := 6) (by decide +kernel) rfl
theorem ws_L_law_1290 : tm_s M_L_law d u0 Q u S n 1290 L st h = tm_p1 st (fun x r => tm_w M_L_law d u0 Q u S n 1291 L (.long x.toInt64 :: r) h) := tm_r_i2l (by decide +kernel) rfl
theorem ws_L_law_1291 : tm_s M_L_law d u0 Q u S n 1291 L st h = tm_pJ st (fun y r => tm_pJ r (fun x r => tm_w M_L_law d u0 Q u S n 1292 L (.int (lg_cmp x y) :: r) h)) := tm_r_lcmp (by decide +kernel) rfl
theorem ws_L_law_1292 : tm_s M_L_law d u0 Q u S n 1292 L st h = tm_p1 st (fun x r => (x = 0 → tm_w M_L_law d u0 Q u S n 1297 L r h) ∧ (¬ x = 0 → tm_w M_L_law d u0 Q u S n 1295 L r h)) := tm_r_ifeq (off := 5) (by decide +kernel) rfl rfl
theorem ws_L_law_1295 : tm_s M_L_law d u0 Q u S n 1295 L st h = tm_w M_L_law d u0 Q u S n 1296 L (.int 0 :: st) h := tm_r_iconst (k := 0) (by decide +kernel) rfl (by decide)
theorem ws_L_law_1296 : tm_s M_L_law d u0 Q u S n 1296 L st h = tm_p1 st (fun x r => r = [] ∧ (x = 0 ∨ x = 1) ∧ Q (.inl (some (.int x))) h) := tm_r_zret (by decide +kernel) rfl
theorem ws_L_law_1297 : tm_s M_L_law d u0 Q u S n 1297 L st h = tm_w M_L_law d u0 Q u S n 1554 L st h := tm_r_goto (off := 257) (by decide +kernel) rfl
theorem ws_L_law_1300 : tm_s M_L_law d u0 Q u S n 1300 L st h = tm_gA L 1 (fun x => tm_w M_L_law d u0 Q u S n 1301 L (.ref x :: st) h) := tm_r_aload_n (i := 1) (by decide +kernel) rfl rfl
theorem ws_L_law_1301 : tm_s M_L_law d u0 Q u S n 1301 L st h = tm_gA L 0 (fun x => tm_w M_L_law d u0 Q u S n 1302 L (.ref x :: st) h) := tm_r_aload_n (i := 0) (by decide +kernel) rfl rfl
theorem ws_L_law_1302 : tm_s M_L_law d u0 Q u S n 1302 L st h = tm_gI L 4 (fun x => tm_w M_L_law d u0 Q u S n 1304 L (.int x :: st) h) := tm_r_iload (j := 4) (by decide +kernel) rfl
theorem ws_L_law_1304 : tm_s M_L_law d u0 Q u S n 1304 L st h = tm_w M_L_law d u0 Q u S n 1305 L (.int 1 :: st) h := tm_r_iconst (k := 1) (by decide +kernel) rfl (by decide)
theorem ws_L_law_1305 : tm_s M_L_law d u0 Q u S n 1305 L st h = tm_p1 st (fun y r => tm_p1 r (fun x r => tm_w M_L_law d u0 Q u S n 1306 L (.int (x + y) :: r) h)) := tm_r_iadd (by decide +kernel) rfl
theorem ws_L_law_1306 : tm_s M_L_law d u0 Q u S n 1306 L st h = tm_p1 st (fun i r => tm_pA r (fun a r => tm_cI (h a) (fun k f => vp_in i k ∧ tm_w M_L_law d u0 Q u S n 1307 L (.int (f i.toNatClampNeg) :: r) h))) := tm_r_iaload (by decide +kernel) rfl
theorem ws_L_law_1307 : tm_s M_L_law d u0 Q u S n 1307 L st h = tm_gA L 0 (fun x => tm_w M_L_law d u0 Q u S n 1308 L (.ref x :: st) h) := tm_r_aload_n (i := 0) (by decide +kernel) rfl rfl
theorem ws_L_law_1308 : tm_s M_L_law d u0 Q u S n 1308 L st h = tm_gI L 4 (fun x => tm_w M_L_law d u0 Q u S n 1310 L (.int x :: st) h) := tm_r_iload (j := 4) (by decide +kernel) rfl
theorem ws_L_law_1310 : tm_s M_L_law d u0 Q u S n 1310 L st h = tm_w M_L_law d u0 Q u S n 1311 L (.int 2 :: st) h := tm_r_iconst (k := 2) (by decide +kernel) rfl (by decide)
theorem ws_L_law_1311 : tm_s M_L_law d u0 Q u S n 1311 L st h = tm_p1 st (fun y r => tm_p1 r (fun x r => tm_w M_L_law d u0 Q u S n 1312 L (.int (x + y) :: r) h)) := tm_r_iadd (by decide +kernel) rfl
theorem ws_L_law_1312 : tm_s M_L_law d u0 Q u S n 1312 L st h = tm_p1 st (fun i r => tm_pA r (fun a r => tm_cI (h a) (fun k f => vp_in i k ∧ tm_w M_L_law d u0 Q u S n 1313 L (.int (f i.toNatClampNeg) :: r) h))) := tm_r_iaload (by decide +kernel) rfl
theorem ws_L_law_1313 : tm_s M_L_law d u0 Q u S n 1313 L st h = tm_gA L 3 (fun x => tm_w M_L_law d u0 Q u S n 1314 L (.ref x :: st) h) := tm_r_aload_n (i := 3) (by decide +kernel) rfl rfl
theorem dd_L_law_1314 : decode (tm_cc M_L_law) 1314 = .ok (.invokestatic 150, 3) := by decide +kernel
theorem ws_L_law_1314 : tm_s M_L_law d u0 Q u S n 1314 L st h = tm_T M_L_law d u0 Q u 1314 L st h := tm_r_invs dd_L_law_1314
theorem ws_L_law_1317 : tm_s M_L_law d u0 Q u S n 1317 L st h = tm_p1 st (fun x r => tm_w M_L_law d u0 Q u S n 1319 (L.set 5 (some (.int x))) r h) := tm_r_istore (j := 5) (by decide +kernel) rfl (by decide)
theorem ws_L_law_1319 : tm_s M_L_law d u0 Q u S n 1319 L st h = tm_gA L 2 (fun x => tm_w M_L_law d u0 Q u S n 1320 L (.ref x :: st) h) := tm_r_aload_n (i := 2) (by decide +kernel) rfl rfl
theorem ws_L_law_1320 : tm_s M_L_law d u0 Q u S n 1320 L st h = tm_gA L 0 (fun x => tm_w M_L_law d u0 Q u S n 1321 L (.ref x :: st) h) := tm_r_aload_n (i := 0) (by decide +kernel) rfl rfl
theorem ws_L_law_1321 : tm_s M_L_law d u0 Q u S n 1321 L st h = tm_gI L 4 (fun x => tm_w M_L_law d u0 Q u S n 1323 L (.int x :: st) h) := tm_r_iload (j := 4) (by decide +kernel) rfl
theorem ws_L_law_1323 : tm_s M_L_law d u0 Q u S n 1323 L st h = tm_w M_L_law d u0 Q u S n 1324 L (.int 1 :: st) h := tm_r_iconst (k := 1) (by decide +kernel) rfl (by decide)
theorem ws_L_law_1324 : tm_s M_L_law d u0 Q u S n 1324 L st h = tm_p1 st (fun y r => tm_p1 r (fun x r => tm_w M_L_law d u0 Q u S n 1325 L (.int (x + y) :: r) h)) := tm_r_iadd (by decide +kernel) rfl
theorem ws_L_law_1325 : tm_s M_L_law d u0 Q u S n 1325 L st h = tm_p1 st (fun i r => tm_pA r (fun a r => tm_cI (h a) (fun k f => vp_in i k ∧ tm_w M_L_law d u0 Q u S n 1326 L (.int (f i.toNatClampNeg) :: r) h))) := tm_r_iaload (by decide +kernel) rfl
theorem ws_L_law_1326 : tm_s M_L_law d u0 Q u S n 1326 L st h = tm_gA L 0 (fun x => tm_w M_L_law d u0 Q u S n 1327 L (.ref x :: st) h) := tm_r_aload_n (i := 0) (by decide +kernel) rfl rfl
theorem ws_L_law_1327 : tm_s M_L_law d u0 Q u S n 1327 L st h = tm_gI L 4 (fun x => tm_w M_L_law d u0 Q u S n 1329 L (.int x :: st) h) := tm_r_iload (j := 4) (by decide +kernel) rfl
theorem ws_L_law_1329 : tm_s M_L_law d u0 Q u S n 1329 L st h = tm_w M_L_law d u0 Q u S n 1330 L (.int 2 :: st) h := tm_r_iconst (k := 2) (by decide +kernel) rfl (by decide)
theorem ws_L_law_1330 : tm_s M_L_law d u0 Q u S n 1330 L st h = tm_p1 st (fun y r => tm_p1 r (fun x r => tm_w M_L_law d u0 Q u S n 1331 L (.int (x + y) :: r) h)) := tm_r_iadd (by decide +kernel) rfl
theorem ws_L_law_1331 : tm_s M_L_law d u0 Q u S n 1331 L st h = tm_p1 st (fun i r => tm_pA r (fun a r => tm_cI (h a) (fun k f => vp_in i k ∧ tm_w M_L_law d u0 Q u S n 1332 L (.int (f i.toNatClampNeg) :: r) h))) := tm_r_iaload (by decide +kernel) rfl
theorem dd_L_law_1332 : decode (tm_cc M_L_law) 1332 = .ok (.invokevirtual 152, 3) := by decide +kernel
theorem ws_L_law_1332 : tm_s M_L_law d u0 Q u S n 1332 L st h = tm_T M_L_law d u0 Q u 1332 L st h := tm_r_invv dd_L_law_1332
theorem ws_L_law_1335 : tm_s M_L_law d u0 Q u S n 1335 L st h = tm_p1 st (fun x r => tm_w M_L_law d u0 Q u S n 1337 (L.set 6 (some (.int x))) r h) := tm_r_istore (j := 6) (by decide +kernel) rfl (by decide)
theorem ws_L_law_1337 : tm_s M_L_law d u0 Q u S n 1337 L st h = tm_gA L 2 (fun x => tm_w M_L_law d u0 Q u S n 1338 L (.ref x :: st) h) := tm_r_aload_n (i := 2) (by decide +kernel) rfl rfl
theorem dd_L_law_1338 : decode (tm_cc M_L_law) 1338 = .ok (.invokevirtual 93, 3) := by decide +kernel
theorem ws_L_law_1338 : tm_s M_L_law d u0 Q u S n 1338 L st h = tm_T M_L_law d u0 Q u 1338 L st h := tm_r_invv dd_L_law_1338
theorem ws_L_law_1341 : tm_s M_L_law d u0 Q u S n 1341 L st h = tm_gI L 5 (fun x => tm_w M_L_law d u0 Q u S n 1343 L (.int x :: st) h) := tm_r_iload (j := 5) (by decide +kernel) rfl
theorem ws_L_law_1343 : tm_s M_L_law d u0 Q u S n 1343 L st h = tm_p1 st (fun y r => tm_p1 r (fun x r => (x = y → tm_w M_L_law d u0 Q u S n 1348 L r h) ∧ (¬ x = y → tm_w M_L_law d u0 Q u S n 1346 L r h))) := tm_r_iceq (off := 5) (by decide +kernel) rfl rfl
theorem ws_L_law_1346 : tm_s M_L_law d u0 Q u S n 1346 L st h = tm_w M_L_law d u0 Q u S n 1347 L (.int 0 :: st) h := tm_r_iconst (k := 0) (by decide +kernel) rfl (by decide)
theorem ws_L_law_1347 : tm_s M_L_law d u0 Q u S n 1347 L st h = tm_p1 st (fun x r => r = [] ∧ (x = 0 ∨ x = 1) ∧ Q (.inl (some (.int x))) h) := tm_r_zret (by decide +kernel) rfl
theorem ws_L_law_1348 : tm_s M_L_law d u0 Q u S n 1348 L st h = tm_gI L 5 (fun x => tm_w M_L_law d u0 Q u S n 1350 L (.int x :: st) h) := tm_r_iload (j := 5) (by decide +kernel) rfl
theorem ws_L_law_1350 : tm_s M_L_law d u0 Q u S n 1350 L st h = tm_p1 st (fun x r => (¬ x = 0 → tm_w M_L_law d u0 Q u S n 1372 L r h) ∧ (¬ ¬ x = 0 → tm_w M_L_law d u0 Q u S n 1353 L r h)) := tm_r_ifne (off := 22) (by decide +kernel) rfl rfl
theorem ws_L_law_1353 : tm_s M_L_law d u0 Q u S n 1353 L st h = tm_gA L 3 (fun x => tm_w M_L_law d u0 Q u S n 1354 L (.ref x :: st) h) := tm_r_aload_n (i := 3) (by decide +kernel) rfl rfl
theorem ws_L_law_1354 : tm_s M_L_law d u0 Q u S n 1354 L st h = tm_w M_L_law d u0 Q u S n 1355 L (.int 0 :: st) h := tm_r_iconst (k := 0) (by decide +kernel) rfl (by decide)
theorem ws_L_law_1355 : tm_s M_L_law d u0 Q u S n 1355 L st h = tm_p1 st (fun i r => tm_pA r (fun a r => tm_cJ (h a) (fun k f => vp_in i k ∧ tm_w M_L_law d u0 Q u S n 1356 L (.long (f i.toNatClampNeg) :: r) h))) := tm_r_laload (by decide +kernel) rfl
theorem ws_L_law_1356 : tm_s M_L_law d u0 Q u S n 1356 L st h = tm_gI L 6 (fun x => tm_w M_L_law d u0 Q u S n 1358 L (.int x :: st) h) := tm_r_iload (j := 6) (by decide +kernel) rfl
theorem ws_L_law_1358 : tm_s M_L_law d u0 Q u S n 1358 L st h = tm_p1 st (fun x r => (x = 0 → tm_w M_L_law d u0 Q u S n 1365 L r h) ∧ (¬ x = 0 → tm_w M_L_law d u0 Q u S n 1361 L r h)) := tm_r_ifeq (off := 7) (by decide +kernel) rfl rfl
theorem ws_L_law_1361 : tm_s M_L_law d u0 Q u S n 1361 L st h = tm_w M_L_law d u0 Q u S n 1362 L (.long 1 :: st) h := tm_r_lconst (k := 1) (by decide +kernel) rfl (by decide)
theorem ws_L_law_1362 : tm_s M_L_law d u0 Q u S n 1362 L st h = tm_w M_L_law d u0 Q u S n 1366 L st h := tm_r_goto (off := 4) (by decide +kernel) rfl
theorem ws_L_law_1365 : tm_s M_L_law d u0 Q u S n 1365 L st h = tm_w M_L_law d u0 Q u S n 1366 L (.long 0 :: st) h := tm_r_lconst (k := 0) (by decide +kernel) rfl (by decide)
theorem ws_L_law_1366 : tm_s M_L_law d u0 Q u S n 1366 L st h = tm_pJ st (fun y r => tm_pJ r (fun x r => tm_w M_L_law d u0 Q u S n 1367 L (.int (lg_cmp x y) :: r) h)) := tm_r_lcmp (by decide +kernel) rfl
theorem ws_L_law_1367 : tm_s M_L_law d u0 Q u S n 1367 L st h = tm_p1 st (fun x r => (x = 0 → tm_w M_L_law d u0 Q u S n 1372 L r h) ∧ (¬ x = 0 → tm_w M_L_law d u0 Q u S n 1370 L r h)) := tm_r_ifeq (off := 5) (by decide +kernel) rfl rfl
theorem ws_L_law_1370 : tm_s M_L_law d u0 Q u S n 1370 L st h = tm_w M_L_law d u0 Q u S n 1371 L (.int 0 :: st) h := tm_r_iconst (k := 0) (by decide +kernel) rfl (by decide)
theorem ws_L_law_1371 : tm_s M_L_law d u0 Q u S n 1371 L st h = tm_p1 st (fun x r => r = [] ∧ (x = 0 ∨ x = 1) ∧ Q (.inl (some (.int x))) h) := tm_r_zret (by decide +kernel) rfl
theorem ws_L_law_1372 : tm_s M_L_law d u0 Q u S n 1372 L st h = tm_w M_L_law d u0 Q u S n 1554 L st h := tm_r_goto (off := 182) (by decide +kernel) rfl
theorem ws_L_law_1375 : tm_s M_L_law d u0 Q u S n 1375 L st h = tm_gA L 1 (fun x => tm_w M_L_law d u0 Q u S n 1376 L (.ref x :: st) h) := tm_r_aload_n (i := 1) (by decide +kernel) rfl rfl
theorem ws_L_law_1376 : tm_s M_L_law d u0 Q u S n 1376 L st h = tm_gA L 0 (fun x => tm_w M_L_law d u0 Q u S n 1377 L (.ref x :: st) h) := tm_r_aload_n (i := 0) (by decide +kernel) rfl rfl
theorem ws_L_law_1377 : tm_s M_L_law d u0 Q u S n 1377 L st h = tm_gI L 4 (fun x => tm_w M_L_law d u0 Q u S n 1379 L (.int x :: st) h) := tm_r_iload (j := 4) (by decide +kernel) rfl
theorem ws_L_law_1379 : tm_s M_L_law d u0 Q u S n 1379 L st h = tm_w M_L_law d u0 Q u S n 1380 L (.int 1 :: st) h := tm_r_iconst (k := 1) (by decide +kernel) rfl (by decide)
theorem ws_L_law_1380 : tm_s M_L_law d u0 Q u S n 1380 L st h = tm_p1 st (fun y r => tm_p1 r (fun x r => tm_w M_L_law d u0 Q u S n 1381 L (.int (x + y) :: r) h)) := tm_r_iadd (by decide +kernel) rfl
theorem ws_L_law_1381 : tm_s M_L_law d u0 Q u S n 1381 L st h = tm_p1 st (fun i r => tm_pA r (fun a r => tm_cI (h a) (fun k f => vp_in i k ∧ tm_w M_L_law d u0 Q u S n 1382 L (.int (f i.toNatClampNeg) :: r) h))) := tm_r_iaload (by decide +kernel) rfl
theorem ws_L_law_1382 : tm_s M_L_law d u0 Q u S n 1382 L st h = tm_gA L 0 (fun x => tm_w M_L_law d u0 Q u S n 1383 L (.ref x :: st) h) := tm_r_aload_n (i := 0) (by decide +kernel) rfl rfl
theorem ws_L_law_1383 : tm_s M_L_law d u0 Q u S n 1383 L st h = tm_gI L 4 (fun x => tm_w M_L_law d u0 Q u S n 1385 L (.int x :: st) h) := tm_r_iload (j := 4) (by decide +kernel) rfl
theorem ws_L_law_1385 : tm_s M_L_law d u0 Q u S n 1385 L st h = tm_w M_L_law d u0 Q u S n 1386 L (.int 2 :: st) h := tm_r_iconst (k := 2) (by decide +kernel) rfl (by decide)
theorem ws_L_law_1386 : tm_s M_L_law d u0 Q u S n 1386 L st h = tm_p1 st (fun y r => tm_p1 r (fun x r => tm_w M_L_law d u0 Q u S n 1387 L (.int (x + y) :: r) h)) := tm_r_iadd (by decide +kernel) rfl
theorem ws_L_law_1387 : tm_s M_L_law d u0 Q u S n 1387 L st h = tm_p1 st (fun i r => tm_pA r (fun a r => tm_cI (h a) (fun k f => vp_in i k ∧ tm_w M_L_law d u0 Q u S n 1388 L (.int (f i.toNatClampNeg) :: r) h))) := tm_r_iaload (by decide +kernel) rfl
theorem ws_L_law_1388 : tm_s M_L_law d u0 Q u S n 1388 L st h = tm_gA L 0 (fun x => tm_w M_L_law d u0 Q u S n 1389 L (.ref x :: st) h) := tm_r_aload_n (i := 0) (by decide +kernel) rfl rfl
theorem ws_L_law_1389 : tm_s M_L_law d u0 Q u S n 1389 L st h = tm_gI L 4 (fun x => tm_w M_L_law d u0 Q u S n 1391 L (.int x :: st) h) := tm_r_iload (j := 4) (by decide +kernel) rfl
theorem ws_L_law_1391 : tm_s M_L_law d u0 Q u S n 1391 L st h = tm_w M_L_law d u0 Q u S n 1392 L (.int 3 :: st) h := tm_r_iconst (k := 3) (by decide +kernel) rfl (by decide)
theorem ws_L_law_1392 : tm_s M_L_law d u0 Q u S n 1392 L st h = tm_p1 st (fun y r => tm_p1 r (fun x r => tm_w M_L_law d u0 Q u S n 1393 L (.int (x + y) :: r) h)) := tm_r_iadd (by decide +kernel) rfl
theorem ws_L_law_1393 : tm_s M_L_law d u0 Q u S n 1393 L st h = tm_p1 st (fun i r => tm_pA r (fun a r => tm_cI (h a) (fun k f => vp_in i k ∧ tm_w M_L_law d u0 Q u S n 1394 L (.int (f i.toNatClampNeg) :: r) h))) := tm_r_iaload (by decide +kernel) rfl
theorem ws_L_law_1394 : tm_s M_L_law d u0 Q u S n 1394 L st h = tm_gA L 3 (fun x => tm_w M_L_law d u0 Q u S n 1395 L (.ref x :: st) h) := tm_r_aload_n (i := 3) (by decide +kernel) rfl rfl
theorem dd_L_law_1395 : decode (tm_cc M_L_law) 1395 = .ok (.invokestatic 153, 3) := by decide +kernel
theorem ws_L_law_1395 : tm_s M_L_law d u0 Q u S n 1395 L st h = tm_T M_L_law d u0 Q u 1395 L st h := tm_r_invs dd_L_law_1395
theorem ws_L_law_1398 : tm_s M_L_law d u0 Q u S n 1398 L st h = tm_p1 st (fun x r => tm_w M_L_law d u0 Q u S n 1400 (L.set 5 (some (.int x))) r h) := tm_r_istore (j := 5) (by decide +kernel) rfl (by decide)
theorem ws_L_law_1400 : tm_s M_L_law d u0 Q u S n 1400 L st h = tm_gA L 2 (fun x => tm_w M_L_law d u0 Q u S n 1401 L (.ref x :: st) h) := tm_r_aload_n (i := 2) (by decide +kernel) rfl rfl
theorem ws_L_law_1401 : tm_s M_L_law d u0 Q u S n 1401 L st h = tm_gA L 0 (fun x => tm_w M_L_law d u0 Q u S n 1402 L (.ref x :: st) h) := tm_r_aload_n (i := 0) (by decide +kernel) rfl rfl
theorem ws_L_law_1402 : tm_s M_L_law d u0 Q u S n 1402 L st h = tm_gI L 4 (fun x => tm_w M_L_law d u0 Q u S n 1404 L (.int x :: st) h) := tm_r_iload (j := 4) (by decide +kernel) rfl
theorem ws_L_law_1404 : tm_s M_L_law d u0 Q u S n 1404 L st h = tm_w M_L_law d u0 Q u S n 1405 L (.int 1 :: st) h := tm_r_iconst (k := 1) (by decide +kernel) rfl (by decide)
theorem ws_L_law_1405 : tm_s M_L_law d u0 Q u S n 1405 L st h = tm_p1 st (fun y r => tm_p1 r (fun x r => tm_w M_L_law d u0 Q u S n 1406 L (.int (x + y) :: r) h)) := tm_r_iadd (by decide +kernel) rfl
theorem ws_L_law_1406 : tm_s M_L_law d u0 Q u S n 1406 L st h = tm_p1 st (fun i r => tm_pA r (fun a r => tm_cI (h a) (fun k f => vp_in i k ∧ tm_w M_L_law d u0 Q u S n 1407 L (.int (f i.toNatClampNeg) :: r) h))) := tm_r_iaload (by decide +kernel) rfl
theorem ws_L_law_1407 : tm_s M_L_law d u0 Q u S n 1407 L st h = tm_gA L 0 (fun x => tm_w M_L_law d u0 Q u S n 1408 L (.ref x :: st) h) := tm_r_aload_n (i := 0) (by decide +kernel) rfl rfl
theorem ws_L_law_1408 : tm_s M_L_law d u0 Q u S n 1408 L st h = tm_gI L 4 (fun x => tm_w M_L_law d u0 Q u S n 1410 L (.int x :: st) h) := tm_r_iload (j := 4) (by decide +kernel) rfl
theorem ws_L_law_1410 : tm_s M_L_law d u0 Q u S n 1410 L st h = tm_w M_L_law d u0 Q u S n 1411 L (.int 2 :: st) h := tm_r_iconst (k := 2) (by decide +kernel) rfl (by decide)
theorem ws_L_law_1411 : tm_s M_L_law d u0 Q u S n 1411 L st h = tm_p1 st (fun y r => tm_p1 r (fun x r => tm_w M_L_law d u0 Q u S n 1412 L (.int (x + y) :: r) h)) := tm_r_iadd (by decide +kernel) rfl
theorem ws_L_law_1412 : tm_s M_L_law d u0 Q u S n 1412 L st h = tm_p1 st (fun i r => tm_pA r (fun a r => tm_cI (h a) (fun k f => vp_in i k ∧ tm_w M_L_law d u0 Q u S n 1413 L (.int (f i.toNatClampNeg) :: r) h))) := tm_r_iaload (by decide +kernel) rfl
theorem ws_L_law_1413 : tm_s M_L_law d u0 Q u S n 1413 L st h = tm_gA L 0 (fun x => tm_w M_L_law d u0 Q u S n 1414 L (.ref x :: st) h) := tm_r_aload_n (i := 0) (by decide +kernel) rfl rfl
theorem ws_L_law_1414 : tm_s M_L_law d u0 Q u S n 1414 L st h = tm_gI L 4 (fun x => tm_w M_L_law d u0 Q u S n 1416 L (.int x :: st) h) := tm_r_iload (j := 4) (by decide +kernel) rfl
theorem ws_L_law_1416 : tm_s M_L_law d u0 Q u S n 1416 L st h = tm_w M_L_law d u0 Q u S n 1417 L (.int 3 :: st) h := tm_r_iconst (k := 3) (by decide +kernel) rfl (by decide)
theorem ws_L_law_1417 : tm_s M_L_law d u0 Q u S n 1417 L st h = tm_p1 st (fun y r => tm_p1 r (fun x r => tm_w M_L_law d u0 Q u S n 1418 L (.int (x + y) :: r) h)) := tm_r_iadd (by decide +kernel) rfl
theorem ws_L_law_1418 : tm_s M_L_law d u0 Q u S n 1418 L st h = tm_p1 st (fun i r => tm_pA r (fun a r => tm_cI (h a) (fun k f => vp_in i k ∧ tm_w M_L_law d u0 Q u S n 1419 L (.int (f i.toNatClampNeg) :: r) h))) := tm_r_iaload (by decide +kernel) rfl
theorem dd_L_law_1419 : decode (tm_cc M_L_law) 1419 = .ok (.invokevirtual 155, 3) := by decide +kernel
theorem ws_L_law_1419 : tm_s M_L_law d u0 Q u S n 1419 L st h = tm_T M_L_law d u0 Q u 1419 L st h := tm_r_invv dd_L_law_1419
theorem ws_L_law_1422 : tm_s M_L_law d u0 Q u S n 1422 L st h = tm_p1 st (fun x r => tm_w M_L_law d u0 Q u S n 1424 (L.set 6 (some (.int x))) r h) := tm_r_istore (j := 6) (by decide +kernel) rfl (by decide)
theorem ws_L_law_1424 : tm_s M_L_law d u0 Q u S n 1424 L st h = tm_gA L 2 (fun x => tm_w M_L_law d u0 Q u S n 1425 L (.ref x :: st) h) := tm_r_aload_n (i := 2) (by decide +kernel) rfl rfl
theorem dd_L_law_1425 : decode (tm_cc M_L_law) 1425 = .ok (.invokevirtual 93, 3) := by decide +kernel
theorem ws_L_law_1425 : tm_s M_L_law d u0 Q u S n 1425 L st h = tm_T M_L_law d u0 Q u 1425 L st h := tm_r_invv dd_L_law_1425
theorem ws_L_law_1428 : tm_s M_L_law d u0 Q u S n 1428 L st h = tm_gI L 5 (fun x => tm_w M_L_law d u0 Q u S n 1430 L (.int x :: st) h) := tm_r_iload (j := 5) (by decide +kernel) rfl
theorem ws_L_law_1430 : tm_s M_L_law d u0 Q u S n 1430 L st h = tm_p1 st (fun y r => tm_p1 r (fun x r => (x = y → tm_w M_L_law d u0 Q u S n 1435 L r h) ∧ (¬ x = y → tm_w M_L_law d u0 Q u S n 1433 L r h))) := tm_r_iceq (off := 5) (by decide +kernel) rfl rfl
theorem ws_L_law_1433 : tm_s M_L_law d u0 Q u S n 1433 L st h = tm_w M_L_law d u0 Q u S n 1434 L (.int 0 :: st) h := tm_r_iconst (k := 0) (by decide +kernel) rfl (by decide)
theorem ws_L_law_1434 : tm_s M_L_law d u0 Q u S n 1434 L st h = tm_p1 st (fun x r => r = [] ∧ (x = 0 ∨ x = 1) ∧ Q (.inl (some (.int x))) h) := tm_r_zret (by decide +kernel) rfl
theorem ws_L_law_1435 : tm_s M_L_law d u0 Q u S n 1435 L st h = tm_gI L 5 (fun x => tm_w M_L_law d u0 Q u S n 1437 L (.int x :: st) h) := tm_r_iload (j := 5) (by decide +kernel) rfl
theorem ws_L_law_1437 : tm_s M_L_law d u0 Q u S n 1437 L st h = tm_p1 st (fun x r => (¬ x = 0 → tm_w M_L_law d u0 Q u S n 1452 L r h) ∧ (¬ ¬ x = 0 → tm_w M_L_law d u0 Q u S n 1440 L r h)) := tm_r_ifne (off := 15) (by decide +kernel) rfl rfl
theorem ws_L_law_1440 : tm_s M_L_law d u0 Q u S n 1440 L st h = tm_gA L 3 (fun x => tm_w M_L_law d u0 Q u S n 1441 L (.ref x :: st) h) := tm_r_aload_n (i := 3) (by decide +kernel) rfl rfl
theorem ws_L_law_1441 : tm_s M_L_law d u0 Q u S n 1441 L st h = tm_w M_L_law d u0 Q u S n 1442 L (.int 0 :: st) h := tm_r_iconst (k := 0) (by decide +kernel) rfl (by decide)
theorem ws_L_law_1442 : tm_s M_L_law d u0 Q u S n 1442 L st h = tm_p1 st (fun i r => tm_pA r (fun a r => tm_cJ (h a) (fun k f => vp_in i k ∧ tm_w M_L_law d u0 Q u S n 1443 L (.long (f i.toNatClampNeg) :: r) h))) := tm_r_laload (by decide +kernel) rfl
theorem ws_L_law_1443 : tm_s M_L_law d u0 Q u S n 1443 L st h = tm_gI L 6 (fun x => tm_w M_L_law d u0 Q u S n 1445 L (.int x :: st) h) := tm_r_iload (j := 6) (by decide +kernel) rfl
theorem ws_L_law_1445 : tm_s M_L_law d u0 Q u S n 1445 L st h = tm_p1 st (fun x r => tm_w M_L_law d u0 Q u S n 1446 L (.long x.toInt64 :: r) h) := tm_r_i2l (by decide +kernel) rfl
theorem ws_L_law_1446 : tm_s M_L_law d u0 Q u S n 1446 L st h = tm_pJ st (fun y r => tm_pJ r (fun x r => tm_w M_L_law d u0 Q u S n 1447 L (.int (lg_cmp x y) :: r) h)) := tm_r_lcmp (by decide +kernel) rfl
theorem ws_L_law_1447 : tm_s M_L_law d u0 Q u S n 1447 L st h = tm_p1 st (fun x r => (x = 0 → tm_w M_L_law d u0 Q u S n 1452 L r h) ∧ (¬ x = 0 → tm_w M_L_law d u0 Q u S n 1450 L r h)) := tm_r_ifeq (off := 5) (by decide +kernel) rfl rfl
theorem ws_L_law_1450 : tm_s M_L_law d u0 Q u S n 1450 L st h = tm_w M_L_law d u0 Q u S n 1451 L (.int 0 :: st) h := tm_r_iconst (k := 0) (by decide +kernel) rfl (by decide)
theorem ws_L_law_1451 : tm_s M_L_law d u0 Q u S n 1451 L st h = tm_p1 st (fun x r => r = [] ∧ (x = 0 ∨ x = 1) ∧ Q (.inl (some (.int x))) h) := tm_r_zret (by decide +kernel) rfl
theorem ws_L_law_1452 : tm_s M_L_law d u0 Q u S n 1452 L st h = tm_w M_L_law d u0 Q u S n 1554 L st h := tm_r_goto (off := 102) (by decide +kernel) rfl
theorem ws_L_law_1455 : tm_s M_L_law d u0 Q u S n 1455 L st h = tm_gA L 1 (fun x => tm_w M_L_law d u0 Q u S n 1456 L (.ref x :: st) h) := tm_r_aload_n (i := 1) (by decide +kernel) rfl rfl
theorem ws_L_law_1456 : tm_s M_L_law d u0 Q u S n 1456 L st h = tm_gA L 0 (fun x => tm_w M_L_law d u0 Q u S n 1457 L (.ref x :: st) h) := tm_r_aload_n (i := 0) (by decide +kernel) rfl rfl
theorem ws_L_law_1457 : tm_s M_L_law d u0 Q u S n 1457 L st h = tm_gI L 4 (fun x => tm_w M_L_law d u0 Q u S n 1459 L (.int x :: st) h) := tm_r_iload (j := 4) (by decide +kernel) rfl
theorem ws_L_law_1459 : tm_s M_L_law d u0 Q u S n 1459 L st h = tm_w M_L_law d u0 Q u S n 1460 L (.int 1 :: st) h := tm_r_iconst (k := 1) (by decide +kernel) rfl (by decide)
theorem ws_L_law_1460 : tm_s M_L_law d u0 Q u S n 1460 L st h = tm_p1 st (fun y r => tm_p1 r (fun x r => tm_w M_L_law d u0 Q u S n 1461 L (.int (x + y) :: r) h)) := tm_r_iadd (by decide +kernel) rfl
theorem ws_L_law_1461 : tm_s M_L_law d u0 Q u S n 1461 L st h = tm_p1 st (fun i r => tm_pA r (fun a r => tm_cI (h a) (fun k f => vp_in i k ∧ tm_w M_L_law d u0 Q u S n 1462 L (.int (f i.toNatClampNeg) :: r) h))) := tm_r_iaload (by decide +kernel) rfl
theorem ws_L_law_1462 : tm_s M_L_law d u0 Q u S n 1462 L st h = tm_gA L 0 (fun x => tm_w M_L_law d u0 Q u S n 1463 L (.ref x :: st) h) := tm_r_aload_n (i := 0) (by decide +kernel) rfl rfl
theorem ws_L_law_1463 : tm_s M_L_law d u0 Q u S n 1463 L st h = tm_gI L 4 (fun x => tm_w M_L_law d u0 Q u S n 1465 L (.int x :: st) h) := tm_r_iload (j := 4) (by decide +kernel) rfl
theorem ws_L_law_1465 : tm_s M_L_law d u0 Q u S n 1465 L st h = tm_w M_L_law d u0 Q u S n 1466 L (.int 2 :: st) h := tm_r_iconst (k := 2) (by decide +kernel) rfl (by decide)
theorem ws_L_law_1466 : tm_s M_L_law d u0 Q u S n 1466 L st h = tm_p1 st (fun y r => tm_p1 r (fun x r => tm_w M_L_law d u0 Q u S n 1467 L (.int (x + y) :: r) h)) := tm_r_iadd (by decide +kernel) rfl
theorem ws_L_law_1467 : tm_s M_L_law d u0 Q u S n 1467 L st h = tm_p1 st (fun i r => tm_pA r (fun a r => tm_cI (h a) (fun k f => vp_in i k ∧ tm_w M_L_law d u0 Q u S n 1468 L (.int (f i.toNatClampNeg) :: r) h))) := tm_r_iaload (by decide +kernel) rfl
theorem ws_L_law_1468 : tm_s M_L_law d u0 Q u S n 1468 L st h = tm_gA L 0 (fun x => tm_w M_L_law d u0 Q u S n 1469 L (.ref x :: st) h) := tm_r_aload_n (i := 0) (by decide +kernel) rfl rfl
theorem ws_L_law_1469 : tm_s M_L_law d u0 Q u S n 1469 L st h = tm_gI L 4 (fun x => tm_w M_L_law d u0 Q u S n 1471 L (.int x :: st) h) := tm_r_iload (j := 4) (by decide +kernel) rfl
theorem ws_L_law_1471 : tm_s M_L_law d u0 Q u S n 1471 L st h = tm_w M_L_law d u0 Q u S n 1472 L (.int 3 :: st) h := tm_r_iconst (k := 3) (by decide +kernel) rfl (by decide)
theorem ws_L_law_1472 : tm_s M_L_law d u0 Q u S n 1472 L st h = tm_p1 st (fun y r => tm_p1 r (fun x r => tm_w M_L_law d u0 Q u S n 1473 L (.int (x + y) :: r) h)) := tm_r_iadd (by decide +kernel) rfl
theorem ws_L_law_1473 : tm_s M_L_law d u0 Q u S n 1473 L st h = tm_p1 st (fun i r => tm_pA r (fun a r => tm_cI (h a) (fun k f => vp_in i k ∧ tm_w M_L_law d u0 Q u S n 1474 L (.int (f i.toNatClampNeg) :: r) h))) := tm_r_iaload (by decide +kernel) rfl
theorem ws_L_law_1474 : tm_s M_L_law d u0 Q u S n 1474 L st h = tm_gA L 0 (fun x => tm_w M_L_law d u0 Q u S n 1475 L (.ref x :: st) h) := tm_r_aload_n (i := 0) (by decide +kernel) rfl rfl
theorem ws_L_law_1475 : tm_s M_L_law d u0 Q u S n 1475 L st h = tm_gI L 4 (fun x => tm_w M_L_law d u0 Q u S n 1477 L (.int x :: st) h) := tm_r_iload (j := 4) (by decide +kernel) rfl
theorem ws_L_law_1477 : tm_s M_L_law d u0 Q u S n 1477 L st h = tm_w M_L_law d u0 Q u S n 1478 L (.int 4 :: st) h := tm_r_iconst (k := 4) (by decide +kernel) rfl (by decide)
theorem ws_L_law_1478 : tm_s M_L_law d u0 Q u S n 1478 L st h = tm_p1 st (fun y r => tm_p1 r (fun x r => tm_w M_L_law d u0 Q u S n 1479 L (.int (x + y) :: r) h)) := tm_r_iadd (by decide +kernel) rfl
theorem ws_L_law_1479 : tm_s M_L_law d u0 Q u S n 1479 L st h = tm_p1 st (fun i r => tm_pA r (fun a r => tm_cI (h a) (fun k f => vp_in i k ∧ tm_w M_L_law d u0 Q u S n 1480 L (.int (f i.toNatClampNeg) :: r) h))) := tm_r_iaload (by decide +kernel) rfl
theorem ws_L_law_1480 : tm_s M_L_law d u0 Q u S n 1480 L st h = tm_gA L 3 (fun x => tm_w M_L_law d u0 Q u S n 1481 L (.ref x :: st) h) := tm_r_aload_n (i := 3) (by decide +kernel) rfl rfl
theorem dd_L_law_1481 : decode (tm_cc M_L_law) 1481 = .ok (.invokestatic 156, 3) := by decide +kernel
theorem ws_L_law_1481 : tm_s M_L_law d u0 Q u S n 1481 L st h = tm_T M_L_law d u0 Q u 1481 L st h := tm_r_invs dd_L_law_1481
theorem ws_L_law_1484 : tm_s M_L_law d u0 Q u S n 1484 L st h = tm_p1 st (fun x r => tm_w M_L_law d u0 Q u S n 1486 (L.set 5 (some (.int x))) r h) := tm_r_istore (j := 5) (by decide +kernel) rfl (by decide)
theorem ws_L_law_1486 : tm_s M_L_law d u0 Q u S n 1486 L st h = tm_gA L 2 (fun x => tm_w M_L_law d u0 Q u S n 1487 L (.ref x :: st) h) := tm_r_aload_n (i := 2) (by decide +kernel) rfl rfl
theorem ws_L_law_1487 : tm_s M_L_law d u0 Q u S n 1487 L st h = tm_gA L 0 (fun x => tm_w M_L_law d u0 Q u S n 1488 L (.ref x :: st) h) := tm_r_aload_n (i := 0) (by decide +kernel) rfl rfl
theorem ws_L_law_1488 : tm_s M_L_law d u0 Q u S n 1488 L st h = tm_gI L 4 (fun x => tm_w M_L_law d u0 Q u S n 1490 L (.int x :: st) h) := tm_r_iload (j := 4) (by decide +kernel) rfl
theorem ws_L_law_1490 : tm_s M_L_law d u0 Q u S n 1490 L st h = tm_w M_L_law d u0 Q u S n 1491 L (.int 1 :: st) h := tm_r_iconst (k := 1) (by decide +kernel) rfl (by decide)
theorem ws_L_law_1491 : tm_s M_L_law d u0 Q u S n 1491 L st h = tm_p1 st (fun y r => tm_p1 r (fun x r => tm_w M_L_law d u0 Q u S n 1492 L (.int (x + y) :: r) h)) := tm_r_iadd (by decide +kernel) rfl
theorem ws_L_law_1492 : tm_s M_L_law d u0 Q u S n 1492 L st h = tm_p1 st (fun i r => tm_pA r (fun a r => tm_cI (h a) (fun k f => vp_in i k ∧ tm_w M_L_law d u0 Q u S n 1493 L (.int (f i.toNatClampNeg) :: r) h))) := tm_r_iaload (by decide +kernel) rfl
theorem ws_L_law_1493 : tm_s M_L_law d u0 Q u S n 1493 L st h = tm_gA L 0 (fun x => tm_w M_L_law d u0 Q u S n 1494 L (.ref x :: st) h) := tm_r_aload_n (i := 0) (by decide +kernel) rfl rfl
theorem ws_L_law_1494 : tm_s M_L_law d u0 Q u S n 1494 L st h = tm_gI L 4 (fun x => tm_w M_L_law d u0 Q u S n 1496 L (.int x :: st) h) := tm_r_iload (j := 4) (by decide +kernel) rfl
theorem ws_L_law_1496 : tm_s M_L_law d u0 Q u S n 1496 L st h = tm_w M_L_law d u0 Q u S n 1497 L (.int 2 :: st) h := tm_r_iconst (k := 2) (by decide +kernel) rfl (by decide)
theorem ws_L_law_1497 : tm_s M_L_law d u0 Q u S n 1497 L st h = tm_p1 st (fun y r => tm_p1 r (fun x r => tm_w M_L_law d u0 Q u S n 1498 L (.int (x + y) :: r) h)) := tm_r_iadd (by decide +kernel) rfl
theorem ws_L_law_1498 : tm_s M_L_law d u0 Q u S n 1498 L st h = tm_p1 st (fun i r => tm_pA r (fun a r => tm_cI (h a) (fun k f => vp_in i k ∧ tm_w M_L_law d u0 Q u S n 1499 L (.int (f i.toNatClampNeg) :: r) h))) := tm_r_iaload (by decide +kernel) rfl
theorem ws_L_law_1499 : tm_s M_L_law d u0 Q u S n 1499 L st h = tm_gA L 0 (fun x => tm_w M_L_law d u0 Q u S n 1500 L (.ref x :: st) h) := tm_r_aload_n (i := 0) (by decide +kernel) rfl rfl
theorem ws_L_law_1500 : tm_s M_L_law d u0 Q u S n 1500 L st h = tm_gI L 4 (fun x => tm_w M_L_law d u0 Q u S n 1502 L (.int x :: st) h) := tm_r_iload (j := 4) (by decide +kernel) rfl
theorem ws_L_law_1502 : tm_s M_L_law d u0 Q u S n 1502 L st h = tm_w M_L_law d u0 Q u S n 1503 L (.int 3 :: st) h := tm_r_iconst (k := 3) (by decide +kernel) rfl (by decide)
theorem ws_L_law_1503 : tm_s M_L_law d u0 Q u S n 1503 L st h = tm_p1 st (fun y r => tm_p1 r (fun x r => tm_w M_L_law d u0 Q u S n 1504 L (.int (x + y) :: r) h)) := tm_r_iadd (by decide +kernel) rfl
theorem ws_L_law_1504 : tm_s M_L_law d u0 Q u S n 1504 L st h = tm_p1 st (fun i r => tm_pA r (fun a r => tm_cI (h a) (fun k f => vp_in i k ∧ tm_w M_L_law d u0 Q u S n 1505 L (.int (f i.toNatClampNeg) :: r) h))) := tm_r_iaload (by decide +kernel) rfl
theorem ws_L_law_1505 : tm_s M_L_law d u0 Q u S n 1505 L st h = tm_gA L 0 (fun x => tm_w M_L_law d u0 Q u S n 1506 L (.ref x :: st) h) := tm_r_aload_n (i := 0) (by decide +kernel) rfl rfl
theorem ws_L_law_1506 : tm_s M_L_law d u0 Q u S n 1506 L st h = tm_gI L 4 (fun x => tm_w M_L_law d u0 Q u S n 1508 L (.int x :: st) h) := tm_r_iload (j := 4) (by decide +kernel) rfl
theorem ws_L_law_1508 : tm_s M_L_law d u0 Q u S n 1508 L st h = tm_w M_L_law d u0 Q u S n 1509 L (.int 4 :: st) h := tm_r_iconst (k := 4) (by decide +kernel) rfl (by decide)
theorem ws_L_law_1509 : tm_s M_L_law d u0 Q u S n 1509 L st h = tm_p1 st (fun y r => tm_p1 r (fun x r => tm_w M_L_law d u0 Q u S n 1510 L (.int (x + y) :: r) h)) := tm_r_iadd (by decide +kernel) rfl
theorem ws_L_law_1510 : tm_s M_L_law d u0 Q u S n 1510 L st h = tm_p1 st (fun i r => tm_pA r (fun a r => tm_cI (h a) (fun k f => vp_in i k ∧ tm_w M_L_law d u0 Q u S n 1511 L (.int (f i.toNatClampNeg) :: r) h))) := tm_r_iaload (by decide +kernel) rfl
theorem dd_L_law_1511 : decode (tm_cc M_L_law) 1511 = .ok (.invokevirtual 159, 3) := by decide +kernel
theorem ws_L_law_1511 : tm_s M_L_law d u0 Q u S n 1511 L st h = tm_T M_L_law d u0 Q u 1511 L st h := tm_r_invv dd_L_law_1511
theorem ws_L_law_1514 : tm_s M_L_law d u0 Q u S n 1514 L st h = tm_p1 st (fun x r => tm_w M_L_law d u0 Q u S n 1516 (L.set 6 (some (.int x))) r h) := tm_r_istore (j := 6) (by decide +kernel) rfl (by decide)
theorem ws_L_law_1516 : tm_s M_L_law d u0 Q u S n 1516 L st h = tm_gA L 2 (fun x => tm_w M_L_law d u0 Q u S n 1517 L (.ref x :: st) h) := tm_r_aload_n (i := 2) (by decide +kernel) rfl rfl
theorem dd_L_law_1517 : decode (tm_cc M_L_law) 1517 = .ok (.invokevirtual 93, 3) := by decide +kernel
theorem ws_L_law_1517 : tm_s M_L_law d u0 Q u S n 1517 L st h = tm_T M_L_law d u0 Q u 1517 L st h := tm_r_invv dd_L_law_1517
theorem ws_L_law_1520 : tm_s M_L_law d u0 Q u S n 1520 L st h = tm_gI L 5 (fun x => tm_w M_L_law d u0 Q u S n 1522 L (.int x :: st) h) := tm_r_iload (j := 5) (by decide +kernel) rfl
theorem ws_L_law_1522 : tm_s M_L_law d u0 Q u S n 1522 L st h = tm_p1 st (fun y r => tm_p1 r (fun x r => (x = y → tm_w M_L_law d u0 Q u S n 1527 L r h) ∧ (¬ x = y → tm_w M_L_law d u0 Q u S n 1525 L r h))) := tm_r_iceq (off := 5) (by decide +kernel) rfl rfl
theorem ws_L_law_1525 : tm_s M_L_law d u0 Q u S n 1525 L st h = tm_w M_L_law d u0 Q u S n 1526 L (.int 0 :: st) h := tm_r_iconst (k := 0) (by decide +kernel) rfl (by decide)
theorem ws_L_law_1526 : tm_s M_L_law d u0 Q u S n 1526 L st h = tm_p1 st (fun x r => r = [] ∧ (x = 0 ∨ x = 1) ∧ Q (.inl (some (.int x))) h) := tm_r_zret (by decide +kernel) rfl
theorem ws_L_law_1527 : tm_s M_L_law d u0 Q u S n 1527 L st h = tm_gI L 5 (fun x => tm_w M_L_law d u0 Q u S n 1529 L (.int x :: st) h) := tm_r_iload (j := 5) (by decide +kernel) rfl
theorem ws_L_law_1529 : tm_s M_L_law d u0 Q u S n 1529 L st h = tm_p1 st (fun x r => (¬ x = 0 → tm_w M_L_law d u0 Q u S n 1551 L r h) ∧ (¬ ¬ x = 0 → tm_w M_L_law d u0 Q u S n 1532 L r h)) := tm_r_ifne (off := 22) (by decide +kernel) rfl rfl
theorem ws_L_law_1532 : tm_s M_L_law d u0 Q u S n 1532 L st h = tm_gA L 3 (fun x => tm_w M_L_law d u0 Q u S n 1533 L (.ref x :: st) h) := tm_r_aload_n (i := 3) (by decide +kernel) rfl rfl
theorem ws_L_law_1533 : tm_s M_L_law d u0 Q u S n 1533 L st h = tm_w M_L_law d u0 Q u S n 1534 L (.int 0 :: st) h := tm_r_iconst (k := 0) (by decide +kernel) rfl (by decide)
theorem ws_L_law_1534 : tm_s M_L_law d u0 Q u S n 1534 L st h = tm_p1 st (fun i r => tm_pA r (fun a r => tm_cJ (h a) (fun k f => vp_in i k ∧ tm_w M_L_law d u0 Q u S n 1535 L (.long (f i.toNatClampNeg) :: r) h))) := tm_r_laload (by decide +kernel) rfl
theorem ws_L_law_1535 : tm_s M_L_law d u0 Q u S n 1535 L st h = tm_gI L 6 (fun x => tm_w M_L_law d u0 Q u S n 1537 L (.int x :: st) h) := tm_r_iload (j := 6) (by decide +kernel) rfl
theorem ws_L_law_1537 : tm_s M_L_law d u0 Q u S n 1537 L st h = tm_p1 st (fun x r => (x = 0 → tm_w M_L_law d u0 Q u S n 1544 L r h) ∧ (¬ x = 0 → tm_w M_L_law d u0 Q u S n 1540 L r h)) := tm_r_ifeq (off := 7) (by decide +kernel) rfl rfl
theorem ws_L_law_1540 : tm_s M_L_law d u0 Q u S n 1540 L st h = tm_w M_L_law d u0 Q u S n 1541 L (.long 1 :: st) h := tm_r_lconst (k := 1) (by decide +kernel) rfl (by decide)
theorem ws_L_law_1541 : tm_s M_L_law d u0 Q u S n 1541 L st h = tm_w M_L_law d u0 Q u S n 1545 L st h := tm_r_goto (off := 4) (by decide +kernel) rfl
theorem ws_L_law_1544 : tm_s M_L_law d u0 Q u S n 1544 L st h = tm_w M_L_law d u0 Q u S n 1545 L (.long 0 :: st) h := tm_r_lconst (k := 0) (by decide +kernel) rfl (by decide)
theorem ws_L_law_1545 : tm_s M_L_law d u0 Q u S n 1545 L st h = tm_pJ st (fun y r => tm_pJ r (fun x r => tm_w M_L_law d u0 Q u S n 1546 L (.int (lg_cmp x y) :: r) h)) := tm_r_lcmp (by decide +kernel) rfl
theorem ws_L_law_1546 : tm_s M_L_law d u0 Q u S n 1546 L st h = tm_p1 st (fun x r => (x = 0 → tm_w M_L_law d u0 Q u S n 1551 L r h) ∧ (¬ x = 0 → tm_w M_L_law d u0 Q u S n 1549 L r h)) := tm_r_ifeq (off := 5) (by decide +kernel) rfl rfl
theorem ws_L_law_1549 : tm_s M_L_law d u0 Q u S n 1549 L st h = tm_w M_L_law d u0 Q u S n 1550 L (.int 0 :: st) h := tm_r_iconst (k := 0) (by decide +kernel) rfl (by decide)
theorem ws_L_law_1550 : tm_s M_L_law d u0 Q u S n 1550 L st h = tm_p1 st (fun x r => r = [] ∧ (x = 0 ∨ x = 1) ∧ Q (.inl (some (.int x))) h) := tm_r_zret (by decide +kernel) rfl
theorem ws_L_law_1551 : tm_s M_L_law d u0 Q u S n 1551 L st h = tm_w M_L_law d u0 Q u S n 1554 L st h := tm_r_goto (off := 3) (by decide +kernel) rfl
theorem ws_L_law_1554 : tm_s M_L_law d u0 Q u S n 1554 L st h = tm_gI L 4 (fun x => tm_w M_L_law d u0 Q u S n 1557 (L.set 4 (some (.int (x + 5)))) st h) := tm_r_iinc (j := 4) (k := 5) (by decide +kernel) rfl (by decide) (by decide)
theorem ws_L_law_1557 : tm_s M_L_law d u0 Q u S n 1557 L st h = tm_w M_L_law d u0 Q u S n 23 L st h := tm_r_goto (off := (-1534)) (by decide +kernel) rfl
theorem ws_L_law_1560 : tm_s M_L_law d u0 Q u S n 1560 L st h = tm_w M_L_law d u0 Q u S n 1561 L (.int 1 :: st) h := tm_r_iconst (k := 1) (by decide +kernel) rfl (by decide)
theorem ws_L_law_1561 : tm_s M_L_law d u0 Q u S n 1561 L st h = tm_p1 st (fun x r => r = [] ∧ (x = 0 ∨ x = 1) ∧ Q (.inl (some (.int x))) h) := tm_r_zret (by decide +kernel) rfl
end WSL
