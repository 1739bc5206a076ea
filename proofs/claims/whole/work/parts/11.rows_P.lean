section WSP
variable {d u0 u : Nat} {Q : tm_O → tm_Hp → Prop} {S : List Nat} {n : Nat} {L : List (Option Value)} {st : List Value} {h : tm_Hp}
theorem dd_P_init_0 : decode (tm_cc M_P_init) 0 = .ok (.aload_n 0, 1) := by decide +kernel
theorem dd_P_init_1 : decode (tm_cc M_P_init) 1 = .ok (.invokespecial 3, 3) := by decide +kernel
theorem dd_P_init_4 : decode (tm_cc M_P_init) 4 = .ok (.aload_n 0, 1) := by decide +kernel
theorem dd_P_init_5 : decode (tm_cc M_P_init) 5 = .ok (.bipush 7, 2) := by decide +kernel
theorem dd_P_init_7 : decode (tm_cc M_P_init) 7 = .ok (.newarray .int, 2) := by decide +kernel
theorem dd_P_init_9 : decode (tm_cc M_P_init) 9 = .ok (.putfield 9, 3) := by decide +kernel
theorem dd_P_init_12 : decode (tm_cc M_P_init) 12 = .ok (.aload_n 0, 1) := by decide +kernel
theorem dd_P_init_13 : decode (tm_cc M_P_init) 13 = .ok (.bipush 7, 2) := by decide +kernel
theorem dd_P_init_15 : decode (tm_cc M_P_init) 15 = .ok (.newarray .int, 2) := by decide +kernel
theorem dd_P_init_17 : decode (tm_cc M_P_init) 17 = .ok (.putfield 15, 3) := by decide +kernel
theorem dd_P_init_20 : decode (tm_cc M_P_init) 20 = .ok (.return_, 1) := by decide +kernel
theorem ws_P_find_0 : tm_s M_P_find d u0 Q u S n 0 L st h = tm_w M_P_find d u0 Q u S n 1 L (.int 0 :: st) h := tm_r_iconst (k := 0) (by decide +kernel) rfl (by decide)
theorem ws_P_find_1 : tm_s M_P_find d u0 Q u S n 1 L st h = tm_p1 st (fun x r => tm_w M_P_find d u0 Q u S n 2 (L.set 2 (some (.int x))) r h) := tm_r_istore_n (i := 2) (by decide +kernel) rfl rfl (by decide)
theorem ws_P_find_2 : tm_s M_P_find d u0 Q u S n 2 L st h = tm_gI L 2 (fun x => tm_w M_P_find d u0 Q u S n 3 L (.int x :: st) h) := tm_r_iload_n (i := 2) (by decide +kernel) rfl rfl
theorem ws_P_find_3 : tm_s M_P_find d u0 Q u S n 3 L st h = tm_gA L 1 (fun x => tm_w M_P_find d u0 Q u S n 4 L (.ref x :: st) h) := tm_r_aload_n (i := 1) (by decide +kernel) rfl rfl
theorem ws_P_find_4 : tm_s M_P_find d u0 Q u S n 4 L st h = tm_pA st (fun a r => tm_cO (h a) 1 (fun fs => tm_fv fs 0 (fun v => tm_w M_P_find d u0 Q u S n 7 L (v :: r) h))) := tm_r_getf (i := 18) (by decide +kernel) rfl (by decide +kernel)
theorem ws_P_find_7 : tm_s M_P_find d u0 Q u S n 7 L st h = tm_p1 st (fun y r => tm_p1 r (fun x r => (y ≤ x → tm_w M_P_find d u0 Q u S n 32 L r h) ∧ (¬ y ≤ x → tm_w M_P_find d u0 Q u S n 10 L r h))) := tm_r_icge (off := 25) (by decide +kernel) rfl rfl
theorem ws_P_find_10 : tm_s M_P_find d u0 Q u S n 10 L st h = tm_gA L 0 (fun x => tm_w M_P_find d u0 Q u S n 11 L (.ref x :: st) h) := tm_r_aload_n (i := 0) (by decide +kernel) rfl rfl
theorem ws_P_find_11 : tm_s M_P_find d u0 Q u S n 11 L st h = tm_pA st (fun a r => tm_cO (h a) 4 (fun fs => tm_fv fs 0 (fun v => tm_w M_P_find d u0 Q u S n 14 L (v :: r) h))) := tm_r_getf (i := 9) (by decide +kernel) rfl (by decide +kernel)
theorem ws_P_find_14 : tm_s M_P_find d u0 Q u S n 14 L st h = tm_gI L 2 (fun x => tm_w M_P_find d u0 Q u S n 15 L (.int x :: st) h) := tm_r_iload_n (i := 2) (by decide +kernel) rfl rfl
theorem ws_P_find_15 : tm_s M_P_find d u0 Q u S n 15 L st h = tm_gA L 1 (fun x => tm_w M_P_find d u0 Q u S n 16 L (.ref x :: st) h) := tm_r_aload_n (i := 1) (by decide +kernel) rfl rfl
theorem ws_P_find_16 : tm_s M_P_find d u0 Q u S n 16 L st h = tm_gA L 1 (fun x => tm_w M_P_find d u0 Q u S n 17 L (.ref x :: st) h) := tm_r_aload_n (i := 1) (by decide +kernel) rfl rfl
theorem ws_P_find_17 : tm_s M_P_find d u0 Q u S n 17 L st h = tm_pA st (fun a r => tm_cO (h a) 1 (fun fs => tm_fv fs 1 (fun v => tm_w M_P_find d u0 Q u S n 20 L (v :: r) h))) := tm_r_getf (i := 24) (by decide +kernel) rfl (by decide +kernel)
theorem ws_P_find_20 : tm_s M_P_find d u0 Q u S n 20 L st h = tm_gI L 2 (fun x => tm_w M_P_find d u0 Q u S n 21 L (.int x :: st) h) := tm_r_iload_n (i := 2) (by decide +kernel) rfl rfl
theorem ws_P_find_21 : tm_s M_P_find d u0 Q u S n 21 L st h = tm_p1 st (fun i r => tm_pA r (fun a r => tm_cI (h a) (fun k f => vp_in i k ∧ tm_w M_P_find d u0 Q u S n 22 L (.int (f i.toNatClampNeg) :: r) h))) := tm_r_iaload (by decide +kernel) rfl
theorem dd_P_find_22 : decode (tm_cc M_P_find) 22 = .ok (.invokevirtual 27, 3) := by decide +kernel
theorem ws_P_find_22 : tm_s M_P_find d u0 Q u S n 22 L st h = tm_T M_P_find d u0 Q u 22 L st h := tm_r_invv dd_P_find_22
theorem ws_P_find_25 : tm_s M_P_find d u0 Q u S n 25 L st h = tm_p1 st (fun x r => tm_p1 r (fun i r => tm_pA r (fun a r => tm_cI (h a) (fun k f => a < tm_K ∧ vp_in i k ∧ tm_w M_P_find d u0 Q u S n 26 L r (tm_up h a (tm_i k (upd f i.toNatClampNeg x))))))) := tm_r_iastore (by decide +kernel) rfl
theorem ws_P_find_26 : tm_s M_P_find d u0 Q u S n 26 L st h = tm_gI L 2 (fun x => tm_w M_P_find d u0 Q u S n 29 (L.set 2 (some (.int (x + 1)))) st h) := tm_r_iinc (j := 2) (k := 1) (by decide +kernel) rfl (by decide) (by decide)
theorem ws_P_find_29 : tm_s M_P_find d u0 Q u S n 29 L st h = tm_w M_P_find d u0 Q u S n 2 L st h := tm_r_goto (off := (-27)) (by decide +kernel) rfl
theorem ws_P_find_32 : tm_s M_P_find d u0 Q u S n 32 L st h = tm_w M_P_find d u0 Q u S n 33 L (.int 1 :: st) h := tm_r_iconst (k := 1) (by decide +kernel) rfl (by decide)
theorem ws_P_find_33 : tm_s M_P_find d u0 Q u S n 33 L st h = tm_p1 st (fun x r => tm_w M_P_find d u0 Q u S n 34 (L.set 2 (some (.int x))) r h) := tm_r_istore_n (i := 2) (by decide +kernel) rfl rfl (by decide)
theorem ws_P_find_34 : tm_s M_P_find d u0 Q u S n 34 L st h = tm_w M_P_find d u0 Q u S n 35 L (.int 0 :: st) h := tm_r_iconst (k := 0) (by decide +kernel) rfl (by decide)
theorem ws_P_find_35 : tm_s M_P_find d u0 Q u S n 35 L st h = tm_p1 st (fun x r => tm_w M_P_find d u0 Q u S n 36 (L.set 3 (some (.int x))) r h) := tm_r_istore_n (i := 3) (by decide +kernel) rfl rfl (by decide)
theorem ws_P_find_36 : tm_s M_P_find d u0 Q u S n 36 L st h = tm_gI L 2 (fun x => tm_w M_P_find d u0 Q u S n 37 L (.int x :: st) h) := tm_r_iload_n (i := 2) (by decide +kernel) rfl rfl
theorem ws_P_find_37 : tm_s M_P_find d u0 Q u S n 37 L st h = tm_p1 st (fun x r => (x = 0 → tm_w M_P_find d u0 Q u S n 60 L r h) ∧ (¬ x = 0 → tm_w M_P_find d u0 Q u S n 40 L r h)) := tm_r_ifeq (off := 23) (by decide +kernel) rfl rfl
theorem ws_P_find_40 : tm_s M_P_find d u0 Q u S n 40 L st h = tm_gI L 3 (fun x => tm_w M_P_find d u0 Q u S n 41 L (.int x :: st) h) := tm_r_iload_n (i := 3) (by decide +kernel) rfl rfl
theorem ws_P_find_41 : tm_s M_P_find d u0 Q u S n 41 L st h = tm_gA L 1 (fun x => tm_w M_P_find d u0 Q u S n 42 L (.ref x :: st) h) := tm_r_aload_n (i := 1) (by decide +kernel) rfl rfl
theorem ws_P_find_42 : tm_s M_P_find d u0 Q u S n 42 L st h = tm_pA st (fun a r => tm_cO (h a) 1 (fun fs => tm_fv fs 0 (fun v => tm_w M_P_find d u0 Q u S n 45 L (v :: r) h))) := tm_r_getf (i := 18) (by decide +kernel) rfl (by decide +kernel)
theorem ws_P_find_45 : tm_s M_P_find d u0 Q u S n 45 L st h = tm_p1 st (fun y r => tm_p1 r (fun x r => (y ≤ x → tm_w M_P_find d u0 Q u S n 60 L r h) ∧ (¬ y ≤ x → tm_w M_P_find d u0 Q u S n 48 L r h))) := tm_r_icge (off := 15) (by decide +kernel) rfl rfl
theorem ws_P_find_48 : tm_s M_P_find d u0 Q u S n 48 L st h = tm_gA L 0 (fun x => tm_w M_P_find d u0 Q u S n 49 L (.ref x :: st) h) := tm_r_aload_n (i := 0) (by decide +kernel) rfl rfl
theorem ws_P_find_49 : tm_s M_P_find d u0 Q u S n 49 L st h = tm_gA L 1 (fun x => tm_w M_P_find d u0 Q u S n 50 L (.ref x :: st) h) := tm_r_aload_n (i := 1) (by decide +kernel) rfl rfl
theorem dd_P_find_50 : decode (tm_cc M_P_find) 50 = .ok (.invokevirtual 31, 3) := by decide +kernel
theorem ws_P_find_50 : tm_s M_P_find d u0 Q u S n 50 L st h = tm_T M_P_find d u0 Q u 50 L st h := tm_r_invv dd_P_find_50
theorem ws_P_find_53 : tm_s M_P_find d u0 Q u S n 53 L st h = tm_p1 st (fun x r => tm_w M_P_find d u0 Q u S n 54 (L.set 2 (some (.int x))) r h) := tm_r_istore_n (i := 2) (by decide +kernel) rfl rfl (by decide)
theorem ws_P_find_54 : tm_s M_P_find d u0 Q u S n 54 L st h = tm_gI L 3 (fun x => tm_w M_P_find d u0 Q u S n 57 (L.set 3 (some (.int (x + 1)))) st h) := tm_r_iinc (j := 3) (k := 1) (by decide +kernel) rfl (by decide) (by decide)
theorem ws_P_find_57 : tm_s M_P_find d u0 Q u S n 57 L st h = tm_w M_P_find d u0 Q u S n 36 L st h := tm_r_goto (off := (-21)) (by decide +kernel) rfl
theorem ws_P_find_60 : tm_s M_P_find d u0 Q u S n 60 L st h = (st = [] ∧ Q (.inl none) h) := tm_r_vret (by decide +kernel) rfl
theorem ws_P_refine_0 : tm_s M_P_refine d u0 Q u S n 0 L st h = tm_w M_P_refine d u0 Q u S n 1 L (.int 0 :: st) h := tm_r_iconst (k := 0) (by decide +kernel) rfl (by decide)
theorem ws_P_refine_1 : tm_s M_P_refine d u0 Q u S n 1 L st h = tm_p1 st (fun x r => tm_w M_P_refine d u0 Q u S n 2 (L.set 2 (some (.int x))) r h) := tm_r_istore_n (i := 2) (by decide +kernel) rfl rfl (by decide)
theorem ws_P_refine_2 : tm_s M_P_refine d u0 Q u S n 2 L st h = tm_w M_P_refine d u0 Q u S n 3 L (.int 0 :: st) h := tm_r_iconst (k := 0) (by decide +kernel) rfl (by decide)
theorem ws_P_refine_3 : tm_s M_P_refine d u0 Q u S n 3 L st h = tm_p1 st (fun x r => tm_w M_P_refine d u0 Q u S n 4 (L.set 3 (some (.int x))) r h) := tm_r_istore_n (i := 3) (by decide +kernel) rfl rfl (by decide)
theorem ws_P_refine_4 : tm_s M_P_refine d u0 Q u S n 4 L st h = tm_gI L 3 (fun x => tm_w M_P_refine d u0 Q u S n 5 L (.int x :: st) h) := tm_r_iload_n (i := 3) (by decide +kernel) rfl rfl
theorem ws_P_refine_5 : tm_s M_P_refine d u0 Q u S n 5 L st h = tm_gA L 1 (fun x => tm_w M_P_refine d u0 Q u S n 6 L (.ref x :: st) h) := tm_r_aload_n (i := 1) (by decide +kernel) rfl rfl
theorem ws_P_refine_6 : tm_s M_P_refine d u0 Q u S n 6 L st h = tm_pA st (fun a r => tm_cO (h a) 1 (fun fs => tm_fv fs 0 (fun v => tm_w M_P_refine d u0 Q u S n 9 L (v :: r) h))) := tm_r_getf (i := 18) (by decide +kernel) rfl (by decide +kernel)
theorem ws_P_refine_9 : tm_s M_P_refine d u0 Q u S n 9 L st h = tm_p1 st (fun y r => tm_p1 r (fun x r => (y ≤ x → tm_w M_P_refine d u0 Q u S n 47 L r h) ∧ (¬ y ≤ x → tm_w M_P_refine d u0 Q u S n 12 L r h))) := tm_r_icge (off := 38) (by decide +kernel) rfl rfl
theorem ws_P_refine_12 : tm_s M_P_refine d u0 Q u S n 12 L st h = tm_gA L 0 (fun x => tm_w M_P_refine d u0 Q u S n 13 L (.ref x :: st) h) := tm_r_aload_n (i := 0) (by decide +kernel) rfl rfl
theorem ws_P_refine_13 : tm_s M_P_refine d u0 Q u S n 13 L st h = tm_pA st (fun a r => tm_cO (h a) 4 (fun fs => tm_fv fs 1 (fun v => tm_w M_P_refine d u0 Q u S n 16 L (v :: r) h))) := tm_r_getf (i := 15) (by decide +kernel) rfl (by decide +kernel)
theorem ws_P_refine_16 : tm_s M_P_refine d u0 Q u S n 16 L st h = tm_gI L 3 (fun x => tm_w M_P_refine d u0 Q u S n 17 L (.int x :: st) h) := tm_r_iload_n (i := 3) (by decide +kernel) rfl rfl
theorem ws_P_refine_17 : tm_s M_P_refine d u0 Q u S n 17 L st h = tm_gA L 0 (fun x => tm_w M_P_refine d u0 Q u S n 18 L (.ref x :: st) h) := tm_r_aload_n (i := 0) (by decide +kernel) rfl rfl
theorem ws_P_refine_18 : tm_s M_P_refine d u0 Q u S n 18 L st h = tm_gA L 1 (fun x => tm_w M_P_refine d u0 Q u S n 19 L (.ref x :: st) h) := tm_r_aload_n (i := 1) (by decide +kernel) rfl rfl
theorem ws_P_refine_19 : tm_s M_P_refine d u0 Q u S n 19 L st h = tm_gI L 3 (fun x => tm_w M_P_refine d u0 Q u S n 20 L (.int x :: st) h) := tm_r_iload_n (i := 3) (by decide +kernel) rfl rfl
theorem dd_P_refine_20 : decode (tm_cc M_P_refine) 20 = .ok (.invokevirtual 35, 3) := by decide +kernel
theorem ws_P_refine_20 : tm_s M_P_refine d u0 Q u S n 20 L st h = tm_T M_P_refine d u0 Q u 20 L st h := tm_r_invv dd_P_refine_20
theorem ws_P_refine_23 : tm_s M_P_refine d u0 Q u S n 23 L st h = tm_p1 st (fun x r => tm_p1 r (fun i r => tm_pA r (fun a r => tm_cI (h a) (fun k f => a < tm_K ∧ vp_in i k ∧ tm_w M_P_refine d u0 Q u S n 24 L r (tm_up h a (tm_i k (upd f i.toNatClampNeg x))))))) := tm_r_iastore (by decide +kernel) rfl
theorem ws_P_refine_24 : tm_s M_P_refine d u0 Q u S n 24 L st h = tm_gA L 0 (fun x => tm_w M_P_refine d u0 Q u S n 25 L (.ref x :: st) h) := tm_r_aload_n (i := 0) (by decide +kernel) rfl rfl
theorem ws_P_refine_25 : tm_s M_P_refine d u0 Q u S n 25 L st h = tm_pA st (fun a r => tm_cO (h a) 4 (fun fs => tm_fv fs 1 (fun v => tm_w M_P_refine d u0 Q u S n 28 L (v :: r) h))) := tm_r_getf (i := 15) (by decide +kernel) rfl (by decide +kernel)
theorem ws_P_refine_28 : tm_s M_P_refine d u0 Q u S n 28 L st h = tm_gI L 3 (fun x => tm_w M_P_refine d u0 Q u S n 29 L (.int x :: st) h) := tm_r_iload_n (i := 3) (by decide +kernel) rfl rfl
theorem ws_P_refine_29 : tm_s M_P_refine d u0 Q u S n 29 L st h = tm_p1 st (fun i r => tm_pA r (fun a r => tm_cI (h a) (fun k f => vp_in i k ∧ tm_w M_P_refine d u0 Q u S n 30 L (.int (f i.toNatClampNeg) :: r) h))) := tm_r_iaload (by decide +kernel) rfl
theorem ws_P_refine_30 : tm_s M_P_refine d u0 Q u S n 30 L st h = tm_gA L 0 (fun x => tm_w M_P_refine d u0 Q u S n 31 L (.ref x :: st) h) := tm_r_aload_n (i := 0) (by decide +kernel) rfl rfl
theorem ws_P_refine_31 : tm_s M_P_refine d u0 Q u S n 31 L st h = tm_pA st (fun a r => tm_cO (h a) 4 (fun fs => tm_fv fs 0 (fun v => tm_w M_P_refine d u0 Q u S n 34 L (v :: r) h))) := tm_r_getf (i := 9) (by decide +kernel) rfl (by decide +kernel)
theorem ws_P_refine_34 : tm_s M_P_refine d u0 Q u S n 34 L st h = tm_gI L 3 (fun x => tm_w M_P_refine d u0 Q u S n 35 L (.int x :: st) h) := tm_r_iload_n (i := 3) (by decide +kernel) rfl rfl
theorem ws_P_refine_35 : tm_s M_P_refine d u0 Q u S n 35 L st h = tm_p1 st (fun i r => tm_pA r (fun a r => tm_cI (h a) (fun k f => vp_in i k ∧ tm_w M_P_refine d u0 Q u S n 36 L (.int (f i.toNatClampNeg) :: r) h))) := tm_r_iaload (by decide +kernel) rfl
theorem ws_P_refine_36 : tm_s M_P_refine d u0 Q u S n 36 L st h = tm_p1 st (fun y r => tm_p1 r (fun x r => (x = y → tm_w M_P_refine d u0 Q u S n 41 L r h) ∧ (¬ x = y → tm_w M_P_refine d u0 Q u S n 39 L r h))) := tm_r_iceq (off := 5) (by decide +kernel) rfl rfl
theorem ws_P_refine_39 : tm_s M_P_refine d u0 Q u S n 39 L st h = tm_w M_P_refine d u0 Q u S n 40 L (.int 1 :: st) h := tm_r_iconst (k := 1) (by decide +kernel) rfl (by decide)
theorem ws_P_refine_40 : tm_s M_P_refine d u0 Q u S n 40 L st h = tm_p1 st (fun x r => tm_w M_P_refine d u0 Q u S n 41 (L.set 2 (some (.int x))) r h) := tm_r_istore_n (i := 2) (by decide +kernel) rfl rfl (by decide)
theorem ws_P_refine_41 : tm_s M_P_refine d u0 Q u S n 41 L st h = tm_gI L 3 (fun x => tm_w M_P_refine d u0 Q u S n 44 (L.set 3 (some (.int (x + 1)))) st h) := tm_r_iinc (j := 3) (k := 1) (by decide +kernel) rfl (by decide) (by decide)
theorem ws_P_refine_44 : tm_s M_P_refine d u0 Q u S n 44 L st h = tm_w M_P_refine d u0 Q u S n 4 L st h := tm_r_goto (off := (-40)) (by decide +kernel) rfl
theorem ws_P_refine_47 : tm_s M_P_refine d u0 Q u S n 47 L st h = tm_gA L 0 (fun x => tm_w M_P_refine d u0 Q u S n 48 L (.ref x :: st) h) := tm_r_aload_n (i := 0) (by decide +kernel) rfl rfl
theorem ws_P_refine_48 : tm_s M_P_refine d u0 Q u S n 48 L st h = tm_pA st (fun a r => tm_cO (h a) 4 (fun fs => tm_fv fs 0 (fun v => tm_w M_P_refine d u0 Q u S n 51 L (v :: r) h))) := tm_r_getf (i := 9) (by decide +kernel) rfl (by decide +kernel)
theorem ws_P_refine_51 : tm_s M_P_refine d u0 Q u S n 51 L st h = tm_pA st (fun x r => tm_w M_P_refine d u0 Q u S n 52 (L.set 3 (some (.ref x))) r h) := tm_r_astore_n (i := 3) (by decide +kernel) rfl rfl (by decide)
theorem ws_P_refine_52 : tm_s M_P_refine d u0 Q u S n 52 L st h = tm_gA L 0 (fun x => tm_w M_P_refine d u0 Q u S n 53 L (.ref x :: st) h) := tm_r_aload_n (i := 0) (by decide +kernel) rfl rfl
theorem ws_P_refine_53 : tm_s M_P_refine d u0 Q u S n 53 L st h = tm_gA L 0 (fun x => tm_w M_P_refine d u0 Q u S n 54 L (.ref x :: st) h) := tm_r_aload_n (i := 0) (by decide +kernel) rfl rfl
theorem ws_P_refine_54 : tm_s M_P_refine d u0 Q u S n 54 L st h = tm_pA st (fun a r => tm_cO (h a) 4 (fun fs => tm_fv fs 1 (fun v => tm_w M_P_refine d u0 Q u S n 57 L (v :: r) h))) := tm_r_getf (i := 15) (by decide +kernel) rfl (by decide +kernel)
theorem ws_P_refine_57 : tm_s M_P_refine d u0 Q u S n 57 L st h = tm_pA st (fun v r => tm_pA r (fun a r => tm_cO (h a) 4 (fun fs => 0 < fs.length ∧ tm_w M_P_refine d u0 Q u S n 60 L r (tm_up h a (tm_o 4 (fs.set 0 (.ref v))))))) := tm_r_puta (i := 9) (by decide +kernel) rfl (by decide +kernel)
theorem ws_P_refine_60 : tm_s M_P_refine d u0 Q u S n 60 L st h = tm_gA L 0 (fun x => tm_w M_P_refine d u0 Q u S n 61 L (.ref x :: st) h) := tm_r_aload_n (i := 0) (by decide +kernel) rfl rfl
theorem ws_P_refine_61 : tm_s M_P_refine d u0 Q u S n 61 L st h = tm_gA L 3 (fun x => tm_w M_P_refine d u0 Q u S n 62 L (.ref x :: st) h) := tm_r_aload_n (i := 3) (by decide +kernel) rfl rfl
theorem ws_P_refine_62 : tm_s M_P_refine d u0 Q u S n 62 L st h = tm_pA st (fun v r => tm_pA r (fun a r => tm_cO (h a) 4 (fun fs => 1 < fs.length ∧ tm_w M_P_refine d u0 Q u S n 65 L r (tm_up h a (tm_o 4 (fs.set 1 (.ref v))))))) := tm_r_puta (i := 15) (by decide +kernel) rfl (by decide +kernel)
theorem ws_P_refine_65 : tm_s M_P_refine d u0 Q u S n 65 L st h = tm_gI L 2 (fun x => tm_w M_P_refine d u0 Q u S n 66 L (.int x :: st) h) := tm_r_iload_n (i := 2) (by decide +kernel) rfl rfl
theorem ws_P_refine_66 : tm_s M_P_refine d u0 Q u S n 66 L st h = tm_p1 st (fun x r => r = [] ∧ (x = 0 ∨ x = 1) ∧ Q (.inl (some (.int x))) h) := tm_r_zret (by decide +kernel) rfl
theorem ws_P_agreeing_0 : tm_s M_P_agreeing d u0 Q u S n 0 L st h = tm_w M_P_agreeing d u0 Q u S n 1 L (.int 0 :: st) h := tm_r_iconst (k := 0) (by decide +kernel) rfl (by decide)
theorem ws_P_agreeing_1 : tm_s M_P_agreeing d u0 Q u S n 1 L st h = tm_p1 st (fun x r => tm_w M_P_agreeing d u0 Q u S n 2 (L.set 3 (some (.int x))) r h) := tm_r_istore_n (i := 3) (by decide +kernel) rfl rfl (by decide)
theorem ws_P_agreeing_2 : tm_s M_P_agreeing d u0 Q u S n 2 L st h = tm_w M_P_agreeing d u0 Q u S n 3 L (.int 0 :: st) h := tm_r_iconst (k := 0) (by decide +kernel) rfl (by decide)
theorem ws_P_agreeing_3 : tm_s M_P_agreeing d u0 Q u S n 3 L st h = tm_p1 st (fun x r => tm_w M_P_agreeing d u0 Q u S n 5 (L.set 4 (some (.int x))) r h) := tm_r_istore (j := 4) (by decide +kernel) rfl (by decide)
theorem ws_P_agreeing_5 : tm_s M_P_agreeing d u0 Q u S n 5 L st h = tm_gI L 4 (fun x => tm_w M_P_agreeing d u0 Q u S n 7 L (.int x :: st) h) := tm_r_iload (j := 4) (by decide +kernel) rfl
theorem ws_P_agreeing_7 : tm_s M_P_agreeing d u0 Q u S n 7 L st h = tm_gA L 1 (fun x => tm_w M_P_agreeing d u0 Q u S n 8 L (.ref x :: st) h) := tm_r_aload_n (i := 1) (by decide +kernel) rfl rfl
theorem ws_P_agreeing_8 : tm_s M_P_agreeing d u0 Q u S n 8 L st h = tm_pA st (fun a r => tm_cO (h a) 1 (fun fs => tm_fv fs 0 (fun v => tm_w M_P_agreeing d u0 Q u S n 11 L (v :: r) h))) := tm_r_getf (i := 18) (by decide +kernel) rfl (by decide +kernel)
theorem ws_P_agreeing_11 : tm_s M_P_agreeing d u0 Q u S n 11 L st h = tm_p1 st (fun y r => tm_p1 r (fun x r => (y ≤ x → tm_w M_P_agreeing d u0 Q u S n 52 L r h) ∧ (¬ y ≤ x → tm_w M_P_agreeing d u0 Q u S n 14 L r h))) := tm_r_icge (off := 41) (by decide +kernel) rfl rfl
theorem ws_P_agreeing_14 : tm_s M_P_agreeing d u0 Q u S n 14 L st h = tm_gA L 0 (fun x => tm_w M_P_agreeing d u0 Q u S n 15 L (.ref x :: st) h) := tm_r_aload_n (i := 0) (by decide +kernel) rfl rfl
theorem ws_P_agreeing_15 : tm_s M_P_agreeing d u0 Q u S n 15 L st h = tm_pA st (fun a r => tm_cO (h a) 4 (fun fs => tm_fv fs 0 (fun v => tm_w M_P_agreeing d u0 Q u S n 18 L (v :: r) h))) := tm_r_getf (i := 9) (by decide +kernel) rfl (by decide +kernel)
theorem ws_P_agreeing_18 : tm_s M_P_agreeing d u0 Q u S n 18 L st h = tm_gI L 2 (fun x => tm_w M_P_agreeing d u0 Q u S n 19 L (.int x :: st) h) := tm_r_iload_n (i := 2) (by decide +kernel) rfl rfl
theorem ws_P_agreeing_19 : tm_s M_P_agreeing d u0 Q u S n 19 L st h = tm_p1 st (fun i r => tm_pA r (fun a r => tm_cI (h a) (fun k f => vp_in i k ∧ tm_w M_P_agreeing d u0 Q u S n 20 L (.int (f i.toNatClampNeg) :: r) h))) := tm_r_iaload (by decide +kernel) rfl
theorem ws_P_agreeing_20 : tm_s M_P_agreeing d u0 Q u S n 20 L st h = tm_gI L 4 (fun x => tm_w M_P_agreeing d u0 Q u S n 22 L (.int x :: st) h) := tm_r_iload (j := 4) (by decide +kernel) rfl
theorem dd_P_agreeing_22 : decode (tm_cc M_P_agreeing) 22 = .ok (.invokestatic 39, 3) := by decide +kernel
theorem ws_P_agreeing_22 : tm_s M_P_agreeing d u0 Q u S n 22 L st h = tm_T M_P_agreeing d u0 Q u 22 L st h := tm_r_invs dd_P_agreeing_22
theorem ws_P_agreeing_25 : tm_s M_P_agreeing d u0 Q u S n 25 L st h = tm_p1 st (fun x r => (x = 0 → tm_w M_P_agreeing d u0 Q u S n 46 L r h) ∧ (¬ x = 0 → tm_w M_P_agreeing d u0 Q u S n 28 L r h)) := tm_r_ifeq (off := 21) (by decide +kernel) rfl rfl
theorem ws_P_agreeing_28 : tm_s M_P_agreeing d u0 Q u S n 28 L st h = tm_gA L 0 (fun x => tm_w M_P_agreeing d u0 Q u S n 29 L (.ref x :: st) h) := tm_r_aload_n (i := 0) (by decide +kernel) rfl rfl
theorem ws_P_agreeing_29 : tm_s M_P_agreeing d u0 Q u S n 29 L st h = tm_gA L 1 (fun x => tm_w M_P_agreeing d u0 Q u S n 30 L (.ref x :: st) h) := tm_r_aload_n (i := 1) (by decide +kernel) rfl rfl
theorem ws_P_agreeing_30 : tm_s M_P_agreeing d u0 Q u S n 30 L st h = tm_gI L 2 (fun x => tm_w M_P_agreeing d u0 Q u S n 31 L (.int x :: st) h) := tm_r_iload_n (i := 2) (by decide +kernel) rfl rfl
theorem ws_P_agreeing_31 : tm_s M_P_agreeing d u0 Q u S n 31 L st h = tm_gI L 4 (fun x => tm_w M_P_agreeing d u0 Q u S n 33 L (.int x :: st) h) := tm_r_iload (j := 4) (by decide +kernel) rfl
theorem dd_P_agreeing_33 : decode (tm_cc M_P_agreeing) 33 = .ok (.invokevirtual 43, 3) := by decide +kernel
theorem ws_P_agreeing_33 : tm_s M_P_agreeing d u0 Q u S n 33 L st h = tm_T M_P_agreeing d u0 Q u 33 L st h := tm_r_invv dd_P_agreeing_33
theorem ws_P_agreeing_36 : tm_s M_P_agreeing d u0 Q u S n 36 L st h = tm_p1 st (fun x r => (x = 0 → tm_w M_P_agreeing d u0 Q u S n 46 L r h) ∧ (¬ x = 0 → tm_w M_P_agreeing d u0 Q u S n 39 L r h)) := tm_r_ifeq (off := 10) (by decide +kernel) rfl rfl
theorem ws_P_agreeing_39 : tm_s M_P_agreeing d u0 Q u S n 39 L st h = tm_gI L 3 (fun x => tm_w M_P_agreeing d u0 Q u S n 40 L (.int x :: st) h) := tm_r_iload_n (i := 3) (by decide +kernel) rfl rfl
theorem ws_P_agreeing_40 : tm_s M_P_agreeing d u0 Q u S n 40 L st h = tm_w M_P_agreeing d u0 Q u S n 41 L (.int 1 :: st) h := tm_r_iconst (k := 1) (by decide +kernel) rfl (by decide)
theorem ws_P_agreeing_41 : tm_s M_P_agreeing d u0 Q u S n 41 L st h = tm_gI L 4 (fun x => tm_w M_P_agreeing d u0 Q u S n 43 L (.int x :: st) h) := tm_r_iload (j := 4) (by decide +kernel) rfl
theorem ws_P_agreeing_43 : tm_s M_P_agreeing d u0 Q u S n 43 L st h = tm_p1 st (fun y r => tm_p1 r (fun x r => tm_w M_P_agreeing d u0 Q u S n 44 L (.int (x <<< (y &&& 31)) :: r) h)) := tm_r_ishl (by decide +kernel) rfl
theorem ws_P_agreeing_44 : tm_s M_P_agreeing d u0 Q u S n 44 L st h = tm_p1 st (fun y r => tm_p1 r (fun x r => tm_w M_P_agreeing d u0 Q u S n 45 L (.int (x ||| y) :: r) h)) := tm_r_ior (by decide +kernel) rfl
theorem ws_P_agreeing_45 : tm_s M_P_agreeing d u0 Q u S n 45 L st h = tm_p1 st (fun x r => tm_w M_P_agreeing d u0 Q u S n 46 (L.set 3 (some (.int x))) r h) := tm_r_istore_n (i := 3) (by decide +kernel) rfl rfl (by decide)
theorem ws_P_agreeing_46 : tm_s M_P_agreeing d u0 Q u S n 46 L st h = tm_gI L 4 (fun x => tm_w M_P_agreeing d u0 Q u S n 49 (L.set 4 (some (.int (x + 1)))) st h) := tm_r_iinc (j := 4) (k := 1) (by decide +kernel) rfl (by decide) (by decide)
theorem ws_P_agreeing_49 : tm_s M_P_agreeing d u0 Q u S n 49 L st h = tm_w M_P_agreeing d u0 Q u S n 5 L st h := tm_r_goto (off := (-44)) (by decide +kernel) rfl
theorem ws_P_agreeing_52 : tm_s M_P_agreeing d u0 Q u S n 52 L st h = tm_gI L 3 (fun x => tm_w M_P_agreeing d u0 Q u S n 53 L (.int x :: st) h) := tm_r_iload_n (i := 3) (by decide +kernel) rfl rfl
theorem ws_P_agreeing_53 : tm_s M_P_agreeing d u0 Q u S n 53 L st h = tm_p1 st (fun x r => r = [] ∧ Q (.inl (some (.int x))) h) := tm_r_iret (by decide +kernel) rfl
theorem ws_P_agree_0 : tm_s M_P_agree d u0 Q u S n 0 L st h = tm_w M_P_agree d u0 Q u S n 1 L (.int 0 :: st) h := tm_r_iconst (k := 0) (by decide +kernel) rfl (by decide)
theorem ws_P_agree_1 : tm_s M_P_agree d u0 Q u S n 1 L st h = tm_p1 st (fun x r => tm_w M_P_agree d u0 Q u S n 3 (L.set 4 (some (.int x))) r h) := tm_r_istore (j := 4) (by decide +kernel) rfl (by decide)
theorem ws_P_agree_3 : tm_s M_P_agree d u0 Q u S n 3 L st h = tm_gI L 4 (fun x => tm_w M_P_agree d u0 Q u S n 5 L (.int x :: st) h) := tm_r_iload (j := 4) (by decide +kernel) rfl
theorem ws_P_agree_5 : tm_s M_P_agree d u0 Q u S n 5 L st h = tm_gA L 1 (fun x => tm_w M_P_agree d u0 Q u S n 6 L (.ref x :: st) h) := tm_r_aload_n (i := 1) (by decide +kernel) rfl rfl
theorem ws_P_agree_6 : tm_s M_P_agree d u0 Q u S n 6 L st h = tm_pA st (fun a r => tm_cO (h a) 1 (fun fs => tm_fv fs 0 (fun v => tm_w M_P_agree d u0 Q u S n 9 L (v :: r) h))) := tm_r_getf (i := 18) (by decide +kernel) rfl (by decide +kernel)
theorem ws_P_agree_9 : tm_s M_P_agree d u0 Q u S n 9 L st h = tm_p1 st (fun y r => tm_p1 r (fun x r => (y ≤ x → tm_w M_P_agree d u0 Q u S n 65 L r h) ∧ (¬ y ≤ x → tm_w M_P_agree d u0 Q u S n 12 L r h))) := tm_r_icge (off := 56) (by decide +kernel) rfl rfl
theorem ws_P_agree_12 : tm_s M_P_agree d u0 Q u S n 12 L st h = tm_gA L 1 (fun x => tm_w M_P_agree d u0 Q u S n 13 L (.ref x :: st) h) := tm_r_aload_n (i := 1) (by decide +kernel) rfl rfl
theorem ws_P_agree_13 : tm_s M_P_agree d u0 Q u S n 13 L st h = tm_pA st (fun a r => tm_cO (h a) 1 (fun fs => tm_fv fs 2 (fun v => tm_w M_P_agree d u0 Q u S n 16 L (v :: r) h))) := tm_r_getf (i := 47) (by decide +kernel) rfl (by decide +kernel)
theorem ws_P_agree_16 : tm_s M_P_agree d u0 Q u S n 16 L st h = tm_gI L 2 (fun x => tm_w M_P_agree d u0 Q u S n 17 L (.int x :: st) h) := tm_r_iload_n (i := 2) (by decide +kernel) rfl rfl
theorem ws_P_agree_17 : tm_s M_P_agree d u0 Q u S n 17 L st h = tm_p1 st (fun i r => tm_pA r (fun a r => tm_cI (h a) (fun k f => vp_in i k ∧ tm_w M_P_agree d u0 Q u S n 18 L (.int (f i.toNatClampNeg) :: r) h))) := tm_r_iaload (by decide +kernel) rfl
theorem ws_P_agree_18 : tm_s M_P_agree d u0 Q u S n 18 L st h = tm_gA L 0 (fun x => tm_w M_P_agree d u0 Q u S n 19 L (.ref x :: st) h) := tm_r_aload_n (i := 0) (by decide +kernel) rfl rfl
theorem ws_P_agree_19 : tm_s M_P_agree d u0 Q u S n 19 L st h = tm_pA st (fun a r => tm_cO (h a) 4 (fun fs => tm_fv fs 0 (fun v => tm_w M_P_agree d u0 Q u S n 22 L (v :: r) h))) := tm_r_getf (i := 9) (by decide +kernel) rfl (by decide +kernel)
theorem ws_P_agree_22 : tm_s M_P_agree d u0 Q u S n 22 L st h = tm_gI L 4 (fun x => tm_w M_P_agree d u0 Q u S n 24 L (.int x :: st) h) := tm_r_iload (j := 4) (by decide +kernel) rfl
theorem ws_P_agree_24 : tm_s M_P_agree d u0 Q u S n 24 L st h = tm_p1 st (fun i r => tm_pA r (fun a r => tm_cI (h a) (fun k f => vp_in i k ∧ tm_w M_P_agree d u0 Q u S n 25 L (.int (f i.toNatClampNeg) :: r) h))) := tm_r_iaload (by decide +kernel) rfl
theorem ws_P_agree_25 : tm_s M_P_agree d u0 Q u S n 25 L st h = tm_p1 st (fun y r => tm_p1 r (fun x r => tm_w M_P_agree d u0 Q u S n 26 L (.int (x &&& y) :: r) h)) := tm_r_iand (by decide +kernel) rfl
theorem dd_P_agree_26 : decode (tm_cc M_P_agree) 26 = .ok (.invokestatic 50, 3) := by decide +kernel
theorem ws_P_agree_26 : tm_s M_P_agree d u0 Q u S n 26 L st h = tm_T M_P_agree d u0 Q u 26 L st h := tm_r_invs dd_P_agree_26
theorem ws_P_agree_29 : tm_s M_P_agree d u0 Q u S n 29 L st h = tm_p1 st (fun x r => tm_w M_P_agree d u0 Q u S n 31 (L.set 5 (some (.int x))) r h) := tm_r_istore (j := 5) (by decide +kernel) rfl (by decide)
theorem ws_P_agree_31 : tm_s M_P_agree d u0 Q u S n 31 L st h = tm_gA L 1 (fun x => tm_w M_P_agree d u0 Q u S n 32 L (.ref x :: st) h) := tm_r_aload_n (i := 1) (by decide +kernel) rfl rfl
theorem ws_P_agree_32 : tm_s M_P_agree d u0 Q u S n 32 L st h = tm_pA st (fun a r => tm_cO (h a) 1 (fun fs => tm_fv fs 2 (fun v => tm_w M_P_agree d u0 Q u S n 35 L (v :: r) h))) := tm_r_getf (i := 47) (by decide +kernel) rfl (by decide +kernel)
theorem ws_P_agree_35 : tm_s M_P_agree d u0 Q u S n 35 L st h = tm_gI L 3 (fun x => tm_w M_P_agree d u0 Q u S n 36 L (.int x :: st) h) := tm_r_iload_n (i := 3) (by decide +kernel) rfl rfl
theorem ws_P_agree_36 : tm_s M_P_agree d u0 Q u S n 36 L st h = tm_p1 st (fun i r => tm_pA r (fun a r => tm_cI (h a) (fun k f => vp_in i k ∧ tm_w M_P_agree d u0 Q u S n 37 L (.int (f i.toNatClampNeg) :: r) h))) := tm_r_iaload (by decide +kernel) rfl
theorem ws_P_agree_37 : tm_s M_P_agree d u0 Q u S n 37 L st h = tm_gA L 0 (fun x => tm_w M_P_agree d u0 Q u S n 38 L (.ref x :: st) h) := tm_r_aload_n (i := 0) (by decide +kernel) rfl rfl
theorem ws_P_agree_38 : tm_s M_P_agree d u0 Q u S n 38 L st h = tm_pA st (fun a r => tm_cO (h a) 4 (fun fs => tm_fv fs 0 (fun v => tm_w M_P_agree d u0 Q u S n 41 L (v :: r) h))) := tm_r_getf (i := 9) (by decide +kernel) rfl (by decide +kernel)
theorem ws_P_agree_41 : tm_s M_P_agree d u0 Q u S n 41 L st h = tm_gI L 4 (fun x => tm_w M_P_agree d u0 Q u S n 43 L (.int x :: st) h) := tm_r_iload (j := 4) (by decide +kernel) rfl
theorem ws_P_agree_43 : tm_s M_P_agree d u0 Q u S n 43 L st h = tm_p1 st (fun i r => tm_pA r (fun a r => tm_cI (h a) (fun k f => vp_in i k ∧ tm_w M_P_agree d u0 Q u S n 44 L (.int (f i.toNatClampNeg) :: r) h))) := tm_r_iaload (by decide +kernel) rfl
theorem ws_P_agree_44 : tm_s M_P_agree d u0 Q u S n 44 L st h = tm_p1 st (fun y r => tm_p1 r (fun x r => tm_w M_P_agree d u0 Q u S n 45 L (.int (x &&& y) :: r) h)) := tm_r_iand (by decide +kernel) rfl
theorem dd_P_agree_45 : decode (tm_cc M_P_agree) 45 = .ok (.invokestatic 50, 3) := by decide +kernel
theorem ws_P_agree_45 : tm_s M_P_agree d u0 Q u S n 45 L st h = tm_T M_P_agree d u0 Q u 45 L st h := tm_r_invs dd_P_agree_45
theorem ws_P_agree_48 : tm_s M_P_agree d u0 Q u S n 48 L st h = tm_p1 st (fun x r => tm_w M_P_agree d u0 Q u S n 50 (L.set 6 (some (.int x))) r h) := tm_r_istore (j := 6) (by decide +kernel) rfl (by decide)
theorem ws_P_agree_50 : tm_s M_P_agree d u0 Q u S n 50 L st h = tm_gI L 5 (fun x => tm_w M_P_agree d u0 Q u S n 52 L (.int x :: st) h) := tm_r_iload (j := 5) (by decide +kernel) rfl
theorem ws_P_agree_52 : tm_s M_P_agree d u0 Q u S n 52 L st h = tm_gI L 6 (fun x => tm_w M_P_agree d u0 Q u S n 54 L (.int x :: st) h) := tm_r_iload (j := 6) (by decide +kernel) rfl
theorem ws_P_agree_54 : tm_s M_P_agree d u0 Q u S n 54 L st h = tm_p1 st (fun y r => tm_p1 r (fun x r => (x = y → tm_w M_P_agree d u0 Q u S n 59 L r h) ∧ (¬ x = y → tm_w M_P_agree d u0 Q u S n 57 L r h))) := tm_r_iceq (off := 5) (by decide +kernel) rfl rfl
theorem ws_P_agree_57 : tm_s M_P_agree d u0 Q u S n 57 L st h = tm_w M_P_agree d u0 Q u S n 58 L (.int 0 :: st) h := tm_r_iconst (k := 0) (by decide +kernel) rfl (by decide)
theorem ws_P_agree_58 : tm_s M_P_agree d u0 Q u S n 58 L st h = tm_p1 st (fun x r => r = [] ∧ (x = 0 ∨ x = 1) ∧ Q (.inl (some (.int x))) h) := tm_r_zret (by decide +kernel) rfl
theorem ws_P_agree_59 : tm_s M_P_agree d u0 Q u S n 59 L st h = tm_gI L 4 (fun x => tm_w M_P_agree d u0 Q u S n 62 (L.set 4 (some (.int (x + 1)))) st h) := tm_r_iinc (j := 4) (k := 1) (by decide +kernel) rfl (by decide) (by decide)
theorem ws_P_agree_62 : tm_s M_P_agree d u0 Q u S n 62 L st h = tm_w M_P_agree d u0 Q u S n 3 L st h := tm_r_goto (off := (-59)) (by decide +kernel) rfl
theorem ws_P_agree_65 : tm_s M_P_agree d u0 Q u S n 65 L st h = tm_w M_P_agree d u0 Q u S n 66 L (.int 1 :: st) h := tm_r_iconst (k := 1) (by decide +kernel) rfl (by decide)
theorem ws_P_agree_66 : tm_s M_P_agree d u0 Q u S n 66 L st h = tm_p1 st (fun x r => r = [] ∧ (x = 0 ∨ x = 1) ∧ Q (.inl (some (.int x))) h) := tm_r_zret (by decide +kernel) rfl
end WSP
