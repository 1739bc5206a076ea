section WSU
variable {d u0 u : Nat} {Q : tm_O → tm_Hp → Prop} {S : List Nat} {n : Nat} {L : List (Option Value)} {st : List Value} {h : tm_Hp}
theorem dd_U_init_0 : decode (tm_cc M_U_init) 0 = .ok (.aload_n 0, 1) := by decide +kernel
theorem dd_U_init_1 : decode (tm_cc M_U_init) 1 = .ok (.invokespecial 3, 3) := by decide +kernel
theorem dd_U_init_4 : decode (tm_cc M_U_init) 4 = .ok (.aload_n 0, 1) := by decide +kernel
theorem dd_U_init_5 : decode (tm_cc M_U_init) 5 = .ok (.iconst 0, 1) := by decide +kernel
theorem dd_U_init_6 : decode (tm_cc M_U_init) 6 = .ok (.putfield 9, 3) := by decide +kernel
theorem dd_U_init_9 : decode (tm_cc M_U_init) 9 = .ok (.aload_n 0, 1) := by decide +kernel
theorem dd_U_init_10 : decode (tm_cc M_U_init) 10 = .ok (.bipush 7, 2) := by decide +kernel
theorem dd_U_init_12 : decode (tm_cc M_U_init) 12 = .ok (.newarray .int, 2) := by decide +kernel
theorem dd_U_init_14 : decode (tm_cc M_U_init) 14 = .ok (.putfield 15, 3) := by decide +kernel
theorem dd_U_init_17 : decode (tm_cc M_U_init) 17 = .ok (.aload_n 0, 1) := by decide +kernel
theorem dd_U_init_18 : decode (tm_cc M_U_init) 18 = .ok (.bipush 7, 2) := by decide +kernel
theorem dd_U_init_20 : decode (tm_cc M_U_init) 20 = .ok (.newarray .int, 2) := by decide +kernel
theorem dd_U_init_22 : decode (tm_cc M_U_init) 22 = .ok (.putfield 19, 3) := by decide +kernel
theorem dd_U_init_25 : decode (tm_cc M_U_init) 25 = .ok (.aload_n 0, 1) := by decide +kernel
theorem dd_U_init_26 : decode (tm_cc M_U_init) 26 = .ok (.bipush 7, 2) := by decide +kernel
theorem dd_U_init_28 : decode (tm_cc M_U_init) 28 = .ok (.newarray .int, 2) := by decide +kernel
theorem dd_U_init_30 : decode (tm_cc M_U_init) 30 = .ok (.putfield 22, 3) := by decide +kernel
theorem dd_U_init_33 : decode (tm_cc M_U_init) 33 = .ok (.return_, 1) := by decide +kernel
theorem ws_U_find_0 : tm_s M_U_find d u0 Q u S n 0 L st h = tm_gA L 0 (fun x => tm_w M_U_find d u0 Q u S n 1 L (.ref x :: st) h) := tm_r_aload_n (i := 0) (by decide +kernel) rfl rfl
theorem ws_U_find_1 : tm_s M_U_find d u0 Q u S n 1 L st h = tm_w M_U_find d u0 Q u S n 3 L (.int 2147483647 :: st) h := tm_r_ldc (i := 27) (by decide +kernel) rfl rfl
theorem ws_U_find_3 : tm_s M_U_find d u0 Q u S n 3 L st h = tm_p1 st (fun v r => tm_pA r (fun a r => tm_cO (h a) 2 (fun fs => 0 < fs.length ∧ tm_w M_U_find d u0 Q u S n 6 L r (tm_up h a (tm_o 2 (fs.set 0 (.int v))))))) := tm_r_puti (i := 9) (by decide +kernel) rfl (by decide +kernel)
theorem ws_U_find_6 : tm_s M_U_find d u0 Q u S n 6 L st h = tm_gA L 0 (fun x => tm_w M_U_find d u0 Q u S n 7 L (.ref x :: st) h) := tm_r_aload_n (i := 0) (by decide +kernel) rfl rfl
theorem ws_U_find_7 : tm_s M_U_find d u0 Q u S n 7 L st h = tm_gA L 1 (fun x => tm_w M_U_find d u0 Q u S n 8 L (.ref x :: st) h) := tm_r_aload_n (i := 1) (by decide +kernel) rfl rfl
theorem ws_U_find_8 : tm_s M_U_find d u0 Q u S n 8 L st h = tm_w M_U_find d u0 Q u S n 9 L (.int 0 :: st) h := tm_r_iconst (k := 0) (by decide +kernel) rfl (by decide)
theorem ws_U_find_9 : tm_s M_U_find d u0 Q u S n 9 L st h = tm_gA L 1 (fun x => tm_w M_U_find d u0 Q u S n 10 L (.ref x :: st) h) := tm_r_aload_n (i := 1) (by decide +kernel) rfl rfl
theorem dd_U_find_10 : decode (tm_cc M_U_find) 10 = .ok (.invokevirtual 28, 3) := by decide +kernel
theorem ws_U_find_10 : tm_s M_U_find d u0 Q u S n 10 L st h = tm_T M_U_find d u0 Q u 10 L st h := tm_r_invv dd_U_find_10
theorem ws_U_find_13 : tm_s M_U_find d u0 Q u S n 13 L st h = tm_w M_U_find d u0 Q u S n 14 L (.int 0 :: st) h := tm_r_iconst (k := 0) (by decide +kernel) rfl (by decide)
theorem dd_U_find_14 : decode (tm_cc M_U_find) 14 = .ok (.invokevirtual 34, 3) := by decide +kernel
theorem ws_U_find_14 : tm_s M_U_find d u0 Q u S n 14 L st h = tm_T M_U_find d u0 Q u 14 L st h := tm_r_invv dd_U_find_14
theorem ws_U_find_17 : tm_s M_U_find d u0 Q u S n 17 L st h = tm_w M_U_find d u0 Q u S n 18 L (.int 0 :: st) h := tm_r_iconst (k := 0) (by decide +kernel) rfl (by decide)
theorem ws_U_find_18 : tm_s M_U_find d u0 Q u S n 18 L st h = tm_p1 st (fun x r => tm_w M_U_find d u0 Q u S n 19 (L.set 2 (some (.int x))) r h) := tm_r_istore_n (i := 2) (by decide +kernel) rfl rfl (by decide)
theorem ws_U_find_19 : tm_s M_U_find d u0 Q u S n 19 L st h = tm_gI L 2 (fun x => tm_w M_U_find d u0 Q u S n 20 L (.int x :: st) h) := tm_r_iload_n (i := 2) (by decide +kernel) rfl rfl
theorem ws_U_find_20 : tm_s M_U_find d u0 Q u S n 20 L st h = tm_gA L 1 (fun x => tm_w M_U_find d u0 Q u S n 21 L (.ref x :: st) h) := tm_r_aload_n (i := 1) (by decide +kernel) rfl rfl
theorem ws_U_find_21 : tm_s M_U_find d u0 Q u S n 21 L st h = tm_pA st (fun a r => tm_cO (h a) 1 (fun fs => tm_fv fs 0 (fun v => tm_w M_U_find d u0 Q u S n 24 L (v :: r) h))) := tm_r_getf (i := 38) (by decide +kernel) rfl (by decide +kernel)
theorem ws_U_find_24 : tm_s M_U_find d u0 Q u S n 24 L st h = tm_p1 st (fun y r => tm_p1 r (fun x r => (y ≤ x → tm_w M_U_find d u0 Q u S n 45 L r h) ∧ (¬ y ≤ x → tm_w M_U_find d u0 Q u S n 27 L r h))) := tm_r_icge (off := 21) (by decide +kernel) rfl rfl
theorem ws_U_find_27 : tm_s M_U_find d u0 Q u S n 27 L st h = tm_gA L 0 (fun x => tm_w M_U_find d u0 Q u S n 28 L (.ref x :: st) h) := tm_r_aload_n (i := 0) (by decide +kernel) rfl rfl
theorem ws_U_find_28 : tm_s M_U_find d u0 Q u S n 28 L st h = tm_pA st (fun a r => tm_cO (h a) 2 (fun fs => tm_fv fs 2 (fun v => tm_w M_U_find d u0 Q u S n 31 L (v :: r) h))) := tm_r_getf (i := 19) (by decide +kernel) rfl (by decide +kernel)
theorem ws_U_find_31 : tm_s M_U_find d u0 Q u S n 31 L st h = tm_gA L 0 (fun x => tm_w M_U_find d u0 Q u S n 32 L (.ref x :: st) h) := tm_r_aload_n (i := 0) (by decide +kernel) rfl rfl
theorem ws_U_find_32 : tm_s M_U_find d u0 Q u S n 32 L st h = tm_pA st (fun a r => tm_cO (h a) 2 (fun fs => tm_fv fs 1 (fun v => tm_w M_U_find d u0 Q u S n 35 L (v :: r) h))) := tm_r_getf (i := 15) (by decide +kernel) rfl (by decide +kernel)
theorem ws_U_find_35 : tm_s M_U_find d u0 Q u S n 35 L st h = tm_gI L 2 (fun x => tm_w M_U_find d u0 Q u S n 36 L (.int x :: st) h) := tm_r_iload_n (i := 2) (by decide +kernel) rfl rfl
theorem ws_U_find_36 : tm_s M_U_find d u0 Q u S n 36 L st h = tm_p1 st (fun i r => tm_pA r (fun a r => tm_cI (h a) (fun k f => vp_in i k ∧ tm_w M_U_find d u0 Q u S n 37 L (.int (f i.toNatClampNeg) :: r) h))) := tm_r_iaload (by decide +kernel) rfl
theorem ws_U_find_37 : tm_s M_U_find d u0 Q u S n 37 L st h = tm_gI L 2 (fun x => tm_w M_U_find d u0 Q u S n 38 L (.int x :: st) h) := tm_r_iload_n (i := 2) (by decide +kernel) rfl rfl
theorem ws_U_find_38 : tm_s M_U_find d u0 Q u S n 38 L st h = tm_p1 st (fun x r => tm_p1 r (fun i r => tm_pA r (fun a r => tm_cI (h a) (fun k f => a < tm_K ∧ vp_in i k ∧ tm_w M_U_find d u0 Q u S n 39 L r (tm_up h a (tm_i k (upd f i.toNatClampNeg x))))))) := tm_r_iastore (by decide +kernel) rfl
theorem ws_U_find_39 : tm_s M_U_find d u0 Q u S n 39 L st h = tm_gI L 2 (fun x => tm_w M_U_find d u0 Q u S n 42 (L.set 2 (some (.int (x + 1)))) st h) := tm_r_iinc (j := 2) (k := 1) (by decide +kernel) rfl (by decide) (by decide)
theorem ws_U_find_42 : tm_s M_U_find d u0 Q u S n 42 L st h = tm_w M_U_find d u0 Q u S n 19 L st h := tm_r_goto (off := (-23)) (by decide +kernel) rfl
theorem ws_U_find_45 : tm_s M_U_find d u0 Q u S n 45 L st h = (st = [] ∧ Q (.inl none) h) := tm_r_vret (by decide +kernel) rfl
theorem ws_U_fill_0 : tm_s M_U_fill d u0 Q u S n 0 L st h = tm_gI L 2 (fun x => tm_w M_U_fill d u0 Q u S n 1 L (.int x :: st) h) := tm_r_iload_n (i := 2) (by decide +kernel) rfl rfl
theorem ws_U_fill_1 : tm_s M_U_fill d u0 Q u S n 1 L st h = tm_gA L 1 (fun x => tm_w M_U_fill d u0 Q u S n 2 L (.ref x :: st) h) := tm_r_aload_n (i := 1) (by decide +kernel) rfl rfl
theorem ws_U_fill_2 : tm_s M_U_fill d u0 Q u S n 2 L st h = tm_pA st (fun a r => tm_cO (h a) 1 (fun fs => tm_fv fs 0 (fun v => tm_w M_U_fill d u0 Q u S n 5 L (v :: r) h))) := tm_r_getf (i := 38) (by decide +kernel) rfl (by decide +kernel)
theorem ws_U_fill_5 : tm_s M_U_fill d u0 Q u S n 5 L st h = tm_p1 st (fun y r => tm_p1 r (fun x r => (x < y → tm_w M_U_fill d u0 Q u S n 19 L r h) ∧ (¬ x < y → tm_w M_U_fill d u0 Q u S n 8 L r h))) := tm_r_iclt (off := 14) (by decide +kernel) rfl rfl
theorem ws_U_fill_8 : tm_s M_U_fill d u0 Q u S n 8 L st h = tm_gA L 0 (fun x => tm_w M_U_fill d u0 Q u S n 9 L (.ref x :: st) h) := tm_r_aload_n (i := 0) (by decide +kernel) rfl rfl
theorem ws_U_fill_9 : tm_s M_U_fill d u0 Q u S n 9 L st h = tm_gA L 1 (fun x => tm_w M_U_fill d u0 Q u S n 10 L (.ref x :: st) h) := tm_r_aload_n (i := 1) (by decide +kernel) rfl rfl
theorem ws_U_fill_10 : tm_s M_U_fill d u0 Q u S n 10 L st h = tm_pA st (fun a r => tm_cO (h a) 1 (fun fs => tm_fv fs 0 (fun v => tm_w M_U_fill d u0 Q u S n 13 L (v :: r) h))) := tm_r_getf (i := 38) (by decide +kernel) rfl (by decide +kernel)
theorem ws_U_fill_13 : tm_s M_U_fill d u0 Q u S n 13 L st h = tm_gI L 4 (fun x => tm_w M_U_fill d u0 Q u S n 15 L (.int x :: st) h) := tm_r_iload (j := 4) (by decide +kernel) rfl
theorem dd_U_fill_15 : decode (tm_cc M_U_fill) 15 = .ok (.invokevirtual 41, 3) := by decide +kernel
theorem ws_U_fill_15 : tm_s M_U_fill d u0 Q u S n 15 L st h = tm_T M_U_fill d u0 Q u 15 L st h := tm_r_invv dd_U_fill_15
theorem ws_U_fill_18 : tm_s M_U_fill d u0 Q u S n 18 L st h = (st = [] ∧ Q (.inl none) h) := tm_r_vret (by decide +kernel) rfl
theorem ws_U_fill_19 : tm_s M_U_fill d u0 Q u S n 19 L st h = tm_gA L 1 (fun x => tm_w M_U_fill d u0 Q u S n 20 L (.ref x :: st) h) := tm_r_aload_n (i := 1) (by decide +kernel) rfl rfl
theorem ws_U_fill_20 : tm_s M_U_fill d u0 Q u S n 20 L st h = tm_gI L 3 (fun x => tm_w M_U_fill d u0 Q u S n 21 L (.int x :: st) h) := tm_r_iload_n (i := 3) (by decide +kernel) rfl rfl
theorem dd_U_fill_21 : decode (tm_cc M_U_fill) 21 = .ok (.invokestatic 45, 3) := by decide +kernel
theorem ws_U_fill_21 : tm_s M_U_fill d u0 Q u S n 21 L st h = tm_T M_U_fill d u0 Q u 21 L st h := tm_r_invs dd_U_fill_21
theorem ws_U_fill_24 : tm_s M_U_fill d u0 Q u S n 24 L st h = tm_p1 st (fun x r => tm_w M_U_fill d u0 Q u S n 26 (L.set 5 (some (.int x))) r h) := tm_r_istore (j := 5) (by decide +kernel) rfl (by decide)
theorem ws_U_fill_26 : tm_s M_U_fill d u0 Q u S n 26 L st h = tm_gA L 0 (fun x => tm_w M_U_fill d u0 Q u S n 27 L (.ref x :: st) h) := tm_r_aload_n (i := 0) (by decide +kernel) rfl rfl
theorem ws_U_fill_27 : tm_s M_U_fill d u0 Q u S n 27 L st h = tm_gA L 1 (fun x => tm_w M_U_fill d u0 Q u S n 28 L (.ref x :: st) h) := tm_r_aload_n (i := 1) (by decide +kernel) rfl rfl
theorem ws_U_fill_28 : tm_s M_U_fill d u0 Q u S n 28 L st h = tm_gI L 2 (fun x => tm_w M_U_fill d u0 Q u S n 29 L (.int x :: st) h) := tm_r_iload_n (i := 2) (by decide +kernel) rfl rfl
theorem ws_U_fill_29 : tm_s M_U_fill d u0 Q u S n 29 L st h = tm_gI L 5 (fun x => tm_w M_U_fill d u0 Q u S n 31 L (.int x :: st) h) := tm_r_iload (j := 5) (by decide +kernel) rfl
theorem dd_U_fill_31 : decode (tm_cc M_U_fill) 31 = .ok (.invokevirtual 49, 3) := by decide +kernel
theorem ws_U_fill_31 : tm_s M_U_fill d u0 Q u S n 31 L st h = tm_T M_U_fill d u0 Q u 31 L st h := tm_r_invv dd_U_fill_31
theorem ws_U_fill_34 : tm_s M_U_fill d u0 Q u S n 34 L st h = tm_p1 st (fun x r => tm_w M_U_fill d u0 Q u S n 36 (L.set 6 (some (.int x))) r h) := tm_r_istore (j := 6) (by decide +kernel) rfl (by decide)
theorem ws_U_fill_36 : tm_s M_U_fill d u0 Q u S n 36 L st h = tm_gI L 4 (fun x => tm_w M_U_fill d u0 Q u S n 38 L (.int x :: st) h) := tm_r_iload (j := 4) (by decide +kernel) rfl
theorem ws_U_fill_38 : tm_s M_U_fill d u0 Q u S n 38 L st h = tm_gI L 2 (fun x => tm_w M_U_fill d u0 Q u S n 39 L (.int x :: st) h) := tm_r_iload_n (i := 2) (by decide +kernel) rfl rfl
theorem ws_U_fill_39 : tm_s M_U_fill d u0 Q u S n 39 L st h = tm_p1 st (fun y r => tm_p1 r (fun x r => tm_w M_U_fill d u0 Q u S n 40 L (.int (x <<< (y &&& 31)) :: r) h)) := tm_r_ishl (by decide +kernel) rfl
theorem ws_U_fill_40 : tm_s M_U_fill d u0 Q u S n 40 L st h = tm_gI L 6 (fun x => tm_w M_U_fill d u0 Q u S n 42 L (.int x :: st) h) := tm_r_iload (j := 6) (by decide +kernel) rfl
theorem ws_U_fill_42 : tm_s M_U_fill d u0 Q u S n 42 L st h = tm_p1 st (fun y r => tm_p1 r (fun x r => tm_w M_U_fill d u0 Q u S n 43 L (.int (x ||| y) :: r) h)) := tm_r_ior (by decide +kernel) rfl
theorem ws_U_fill_43 : tm_s M_U_fill d u0 Q u S n 43 L st h = tm_p1 st (fun x r => tm_w M_U_fill d u0 Q u S n 45 (L.set 7 (some (.int x))) r h) := tm_r_istore (j := 7) (by decide +kernel) rfl (by decide)
theorem ws_U_fill_45 : tm_s M_U_fill d u0 Q u S n 45 L st h = tm_gI L 7 (fun x => tm_w M_U_fill d u0 Q u S n 47 L (.int x :: st) h) := tm_r_iload (j := 7) (by decide +kernel) rfl
theorem ws_U_fill_47 : tm_s M_U_fill d u0 Q u S n 47 L st h = tm_gA L 0 (fun x => tm_w M_U_fill d u0 Q u S n 48 L (.ref x :: st) h) := tm_r_aload_n (i := 0) (by decide +kernel) rfl rfl
theorem ws_U_fill_48 : tm_s M_U_fill d u0 Q u S n 48 L st h = tm_pA st (fun a r => tm_cO (h a) 2 (fun fs => tm_fv fs 0 (fun v => tm_w M_U_fill d u0 Q u S n 51 L (v :: r) h))) := tm_r_getf (i := 9) (by decide +kernel) rfl (by decide +kernel)
theorem ws_U_fill_51 : tm_s M_U_fill d u0 Q u S n 51 L st h = tm_gA L 1 (fun x => tm_w M_U_fill d u0 Q u S n 52 L (.ref x :: st) h) := tm_r_aload_n (i := 1) (by decide +kernel) rfl rfl
theorem ws_U_fill_52 : tm_s M_U_fill d u0 Q u S n 52 L st h = tm_pA st (fun a r => tm_cO (h a) 1 (fun fs => tm_fv fs 0 (fun v => tm_w M_U_fill d u0 Q u S n 55 L (v :: r) h))) := tm_r_getf (i := 38) (by decide +kernel) rfl (by decide +kernel)
theorem ws_U_fill_55 : tm_s M_U_fill d u0 Q u S n 55 L st h = tm_gI L 2 (fun x => tm_w M_U_fill d u0 Q u S n 56 L (.int x :: st) h) := tm_r_iload_n (i := 2) (by decide +kernel) rfl rfl
theorem dd_U_fill_56 : decode (tm_cc M_U_fill) 56 = .ok (.invokestatic 53, 3) := by decide +kernel
theorem ws_U_fill_56 : tm_s M_U_fill d u0 Q u S n 56 L st h = tm_T M_U_fill d u0 Q u 56 L st h := tm_r_invs dd_U_fill_56
theorem ws_U_fill_59 : tm_s M_U_fill d u0 Q u S n 59 L st h = tm_p1 st (fun y r => tm_p1 r (fun x r => tm_w M_U_fill d u0 Q u S n 60 L (.int ((x.toUInt32 >>> (y.toUInt32 &&& Int32.toUInt32 31)).toInt32) :: r) h)) := tm_r_iushr (by decide +kernel) rfl
theorem ws_U_fill_60 : tm_s M_U_fill d u0 Q u S n 60 L st h = tm_p1 st (fun y r => tm_p1 r (fun x r => (x ≤ y → tm_w M_U_fill d u0 Q u S n 64 L r h) ∧ (¬ x ≤ y → tm_w M_U_fill d u0 Q u S n 63 L r h))) := tm_r_icle (off := 4) (by decide +kernel) rfl rfl
theorem ws_U_fill_63 : tm_s M_U_fill d u0 Q u S n 63 L st h = (st = [] ∧ Q (.inl none) h) := tm_r_vret (by decide +kernel) rfl
theorem ws_U_fill_64 : tm_s M_U_fill d u0 Q u S n 64 L st h = tm_w M_U_fill d u0 Q u S n 65 L (.int 0 :: st) h := tm_r_iconst (k := 0) (by decide +kernel) rfl (by decide)
theorem ws_U_fill_65 : tm_s M_U_fill d u0 Q u S n 65 L st h = tm_p1 st (fun x r => tm_w M_U_fill d u0 Q u S n 67 (L.set 8 (some (.int x))) r h) := tm_r_istore (j := 8) (by decide +kernel) rfl (by decide)
theorem ws_U_fill_67 : tm_s M_U_fill d u0 Q u S n 67 L st h = tm_gI L 8 (fun x => tm_w M_U_fill d u0 Q u S n 69 L (.int x :: st) h) := tm_r_iload (j := 8) (by decide +kernel) rfl
theorem ws_U_fill_69 : tm_s M_U_fill d u0 Q u S n 69 L st h = tm_gA L 1 (fun x => tm_w M_U_fill d u0 Q u S n 70 L (.ref x :: st) h) := tm_r_aload_n (i := 1) (by decide +kernel) rfl rfl
theorem ws_U_fill_70 : tm_s M_U_fill d u0 Q u S n 70 L st h = tm_pA st (fun a r => tm_cO (h a) 1 (fun fs => tm_fv fs 0 (fun v => tm_w M_U_fill d u0 Q u S n 73 L (v :: r) h))) := tm_r_getf (i := 38) (by decide +kernel) rfl (by decide +kernel)
theorem ws_U_fill_73 : tm_s M_U_fill d u0 Q u S n 73 L st h = tm_p1 st (fun y r => tm_p1 r (fun x r => (y ≤ x → tm_w M_U_fill d u0 Q u S n 140 L r h) ∧ (¬ y ≤ x → tm_w M_U_fill d u0 Q u S n 76 L r h))) := tm_r_icge (off := 67) (by decide +kernel) rfl rfl
theorem ws_U_fill_76 : tm_s M_U_fill d u0 Q u S n 76 L st h = tm_gI L 5 (fun x => tm_w M_U_fill d u0 Q u S n 78 L (.int x :: st) h) := tm_r_iload (j := 5) (by decide +kernel) rfl
theorem ws_U_fill_78 : tm_s M_U_fill d u0 Q u S n 78 L st h = tm_gI L 8 (fun x => tm_w M_U_fill d u0 Q u S n 80 L (.int x :: st) h) := tm_r_iload (j := 8) (by decide +kernel) rfl
theorem dd_U_fill_80 : decode (tm_cc M_U_fill) 80 = .ok (.invokestatic 57, 3) := by decide +kernel
theorem ws_U_fill_80 : tm_s M_U_fill d u0 Q u S n 80 L st h = tm_T M_U_fill d u0 Q u 80 L st h := tm_r_invs dd_U_fill_80
theorem ws_U_fill_83 : tm_s M_U_fill d u0 Q u S n 83 L st h = tm_p1 st (fun x r => (x = 0 → tm_w M_U_fill d u0 Q u S n 134 L r h) ∧ (¬ x = 0 → tm_w M_U_fill d u0 Q u S n 86 L r h)) := tm_r_ifeq (off := 51) (by decide +kernel) rfl rfl
theorem ws_U_fill_86 : tm_s M_U_fill d u0 Q u S n 86 L st h = tm_gA L 0 (fun x => tm_w M_U_fill d u0 Q u S n 87 L (.ref x :: st) h) := tm_r_aload_n (i := 0) (by decide +kernel) rfl rfl
theorem ws_U_fill_87 : tm_s M_U_fill d u0 Q u S n 87 L st h = tm_gA L 1 (fun x => tm_w M_U_fill d u0 Q u S n 88 L (.ref x :: st) h) := tm_r_aload_n (i := 1) (by decide +kernel) rfl rfl
theorem ws_U_fill_88 : tm_s M_U_fill d u0 Q u S n 88 L st h = tm_gI L 2 (fun x => tm_w M_U_fill d u0 Q u S n 89 L (.int x :: st) h) := tm_r_iload_n (i := 2) (by decide +kernel) rfl rfl
theorem ws_U_fill_89 : tm_s M_U_fill d u0 Q u S n 89 L st h = tm_gI L 8 (fun x => tm_w M_U_fill d u0 Q u S n 91 L (.int x :: st) h) := tm_r_iload (j := 8) (by decide +kernel) rfl
theorem dd_U_fill_91 : decode (tm_cc M_U_fill) 91 = .ok (.invokevirtual 61, 3) := by decide +kernel
theorem ws_U_fill_91 : tm_s M_U_fill d u0 Q u S n 91 L st h = tm_T M_U_fill d u0 Q u 91 L st h := tm_r_invv dd_U_fill_91
theorem ws_U_fill_94 : tm_s M_U_fill d u0 Q u S n 94 L st h = tm_gI L 6 (fun x => tm_w M_U_fill d u0 Q u S n 96 L (.int x :: st) h) := tm_r_iload (j := 6) (by decide +kernel) rfl
theorem ws_U_fill_96 : tm_s M_U_fill d u0 Q u S n 96 L st h = tm_p1 st (fun y r => tm_p1 r (fun x r => (¬ x = y → tm_w M_U_fill d u0 Q u S n 134 L r h) ∧ (¬ ¬ x = y → tm_w M_U_fill d u0 Q u S n 99 L r h))) := tm_r_icne (off := 38) (by decide +kernel) rfl rfl
theorem ws_U_fill_99 : tm_s M_U_fill d u0 Q u S n 99 L st h = tm_gA L 1 (fun x => tm_w M_U_fill d u0 Q u S n 100 L (.ref x :: st) h) := tm_r_aload_n (i := 1) (by decide +kernel) rfl rfl
theorem ws_U_fill_100 : tm_s M_U_fill d u0 Q u S n 100 L st h = tm_gI L 8 (fun x => tm_w M_U_fill d u0 Q u S n 102 L (.int x :: st) h) := tm_r_iload (j := 8) (by decide +kernel) rfl
theorem ws_U_fill_102 : tm_s M_U_fill d u0 Q u S n 102 L st h = tm_gI L 5 (fun x => tm_w M_U_fill d u0 Q u S n 104 L (.int x :: st) h) := tm_r_iload (j := 5) (by decide +kernel) rfl
theorem dd_U_fill_104 : decode (tm_cc M_U_fill) 104 = .ok (.invokestatic 64, 3) := by decide +kernel
theorem ws_U_fill_104 : tm_s M_U_fill d u0 Q u S n 104 L st h = tm_T M_U_fill d u0 Q u 104 L st h := tm_r_invs dd_U_fill_104
theorem ws_U_fill_107 : tm_s M_U_fill d u0 Q u S n 107 L st h = tm_p1 st (fun x r => (¬ x = 0 → tm_w M_U_fill d u0 Q u S n 134 L r h) ∧ (¬ ¬ x = 0 → tm_w M_U_fill d u0 Q u S n 110 L r h)) := tm_r_ifne (off := 27) (by decide +kernel) rfl rfl
theorem ws_U_fill_110 : tm_s M_U_fill d u0 Q u S n 110 L st h = tm_gA L 0 (fun x => tm_w M_U_fill d u0 Q u S n 111 L (.ref x :: st) h) := tm_r_aload_n (i := 0) (by decide +kernel) rfl rfl
theorem ws_U_fill_111 : tm_s M_U_fill d u0 Q u S n 111 L st h = tm_pA st (fun a r => tm_cO (h a) 2 (fun fs => tm_fv fs 3 (fun v => tm_w M_U_fill d u0 Q u S n 114 L (v :: r) h))) := tm_r_getf (i := 22) (by decide +kernel) rfl (by decide +kernel)
theorem ws_U_fill_114 : tm_s M_U_fill d u0 Q u S n 114 L st h = tm_gI L 2 (fun x => tm_w M_U_fill d u0 Q u S n 115 L (.int x :: st) h) := tm_r_iload_n (i := 2) (by decide +kernel) rfl rfl
theorem ws_U_fill_115 : tm_s M_U_fill d u0 Q u S n 115 L st h = tm_gI L 8 (fun x => tm_w M_U_fill d u0 Q u S n 117 L (.int x :: st) h) := tm_r_iload (j := 8) (by decide +kernel) rfl
theorem ws_U_fill_117 : tm_s M_U_fill d u0 Q u S n 117 L st h = tm_p1 st (fun x r => tm_p1 r (fun i r => tm_pA r (fun a r => tm_cI (h a) (fun k f => a < tm_K ∧ vp_in i k ∧ tm_w M_U_fill d u0 Q u S n 118 L r (tm_up h a (tm_i k (upd f i.toNatClampNeg x))))))) := tm_r_iastore (by decide +kernel) rfl
theorem ws_U_fill_118 : tm_s M_U_fill d u0 Q u S n 118 L st h = tm_gA L 0 (fun x => tm_w M_U_fill d u0 Q u S n 119 L (.ref x :: st) h) := tm_r_aload_n (i := 0) (by decide +kernel) rfl rfl
theorem ws_U_fill_119 : tm_s M_U_fill d u0 Q u S n 119 L st h = tm_gA L 1 (fun x => tm_w M_U_fill d u0 Q u S n 120 L (.ref x :: st) h) := tm_r_aload_n (i := 1) (by decide +kernel) rfl rfl
theorem ws_U_fill_120 : tm_s M_U_fill d u0 Q u S n 120 L st h = tm_gI L 2 (fun x => tm_w M_U_fill d u0 Q u S n 121 L (.int x :: st) h) := tm_r_iload_n (i := 2) (by decide +kernel) rfl rfl
theorem ws_U_fill_121 : tm_s M_U_fill d u0 Q u S n 121 L st h = tm_w M_U_fill d u0 Q u S n 122 L (.int 1 :: st) h := tm_r_iconst (k := 1) (by decide +kernel) rfl (by decide)
theorem ws_U_fill_122 : tm_s M_U_fill d u0 Q u S n 122 L st h = tm_p1 st (fun y r => tm_p1 r (fun x r => tm_w M_U_fill d u0 Q u S n 123 L (.int (x + y) :: r) h)) := tm_r_iadd (by decide +kernel) rfl
theorem ws_U_fill_123 : tm_s M_U_fill d u0 Q u S n 123 L st h = tm_gI L 3 (fun x => tm_w M_U_fill d u0 Q u S n 124 L (.int x :: st) h) := tm_r_iload_n (i := 3) (by decide +kernel) rfl rfl
theorem ws_U_fill_124 : tm_s M_U_fill d u0 Q u S n 124 L st h = tm_w M_U_fill d u0 Q u S n 125 L (.int 1 :: st) h := tm_r_iconst (k := 1) (by decide +kernel) rfl (by decide)
theorem ws_U_fill_125 : tm_s M_U_fill d u0 Q u S n 125 L st h = tm_gI L 8 (fun x => tm_w M_U_fill d u0 Q u S n 127 L (.int x :: st) h) := tm_r_iload (j := 8) (by decide +kernel) rfl
theorem ws_U_fill_127 : tm_s M_U_fill d u0 Q u S n 127 L st h = tm_p1 st (fun y r => tm_p1 r (fun x r => tm_w M_U_fill d u0 Q u S n 128 L (.int (x <<< (y &&& 31)) :: r) h)) := tm_r_ishl (by decide +kernel) rfl
theorem ws_U_fill_128 : tm_s M_U_fill d u0 Q u S n 128 L st h = tm_p1 st (fun y r => tm_p1 r (fun x r => tm_w M_U_fill d u0 Q u S n 129 L (.int (x ^^^ y) :: r) h)) := tm_r_ixor (by decide +kernel) rfl
theorem ws_U_fill_129 : tm_s M_U_fill d u0 Q u S n 129 L st h = tm_gI L 7 (fun x => tm_w M_U_fill d u0 Q u S n 131 L (.int x :: st) h) := tm_r_iload (j := 7) (by decide +kernel) rfl
theorem dd_U_fill_131 : decode (tm_cc M_U_fill) 131 = .ok (.invokevirtual 34, 3) := by decide +kernel
theorem ws_U_fill_131 : tm_s M_U_fill d u0 Q u S n 131 L st h = tm_T M_U_fill d u0 Q u 131 L st h := tm_r_invv dd_U_fill_131
theorem ws_U_fill_134 : tm_s M_U_fill d u0 Q u S n 134 L st h = tm_gI L 8 (fun x => tm_w M_U_fill d u0 Q u S n 137 (L.set 8 (some (.int (x + 1)))) st h) := tm_r_iinc (j := 8) (k := 1) (by decide +kernel) rfl (by decide) (by decide)
theorem ws_U_fill_137 : tm_s M_U_fill d u0 Q u S n 137 L st h = tm_w M_U_fill d u0 Q u S n 67 L st h := tm_r_goto (off := (-70)) (by decide +kernel) rfl
theorem ws_U_fill_140 : tm_s M_U_fill d u0 Q u S n 140 L st h = (st = [] ∧ Q (.inl none) h) := tm_r_vret (by decide +kernel) rfl
theorem ws_U_keepIfLess_0 : tm_s M_U_keepIfLess d u0 Q u S n 0 L st h = tm_gI L 2 (fun x => tm_w M_U_keepIfLess d u0 Q u S n 1 L (.int x :: st) h) := tm_r_iload_n (i := 2) (by decide +kernel) rfl rfl
theorem ws_U_keepIfLess_1 : tm_s M_U_keepIfLess d u0 Q u S n 1 L st h = tm_gA L 0 (fun x => tm_w M_U_keepIfLess d u0 Q u S n 2 L (.ref x :: st) h) := tm_r_aload_n (i := 0) (by decide +kernel) rfl rfl
theorem ws_U_keepIfLess_2 : tm_s M_U_keepIfLess d u0 Q u S n 2 L st h = tm_pA st (fun a r => tm_cO (h a) 2 (fun fs => tm_fv fs 0 (fun v => tm_w M_U_keepIfLess d u0 Q u S n 5 L (v :: r) h))) := tm_r_getf (i := 9) (by decide +kernel) rfl (by decide +kernel)
theorem ws_U_keepIfLess_5 : tm_s M_U_keepIfLess d u0 Q u S n 5 L st h = tm_p1 st (fun y r => tm_p1 r (fun x r => (y ≤ x → tm_w M_U_keepIfLess d u0 Q u S n 27 L r h) ∧ (¬ y ≤ x → tm_w M_U_keepIfLess d u0 Q u S n 8 L r h))) := tm_r_icge (off := 22) (by decide +kernel) rfl rfl
theorem ws_U_keepIfLess_8 : tm_s M_U_keepIfLess d u0 Q u S n 8 L st h = tm_gA L 0 (fun x => tm_w M_U_keepIfLess d u0 Q u S n 9 L (.ref x :: st) h) := tm_r_aload_n (i := 0) (by decide +kernel) rfl rfl
theorem ws_U_keepIfLess_9 : tm_s M_U_keepIfLess d u0 Q u S n 9 L st h = tm_gI L 2 (fun x => tm_w M_U_keepIfLess d u0 Q u S n 10 L (.int x :: st) h) := tm_r_iload_n (i := 2) (by decide +kernel) rfl rfl
theorem ws_U_keepIfLess_10 : tm_s M_U_keepIfLess d u0 Q u S n 10 L st h = tm_p1 st (fun v r => tm_pA r (fun a r => tm_cO (h a) 2 (fun fs => 0 < fs.length ∧ tm_w M_U_keepIfLess d u0 Q u S n 13 L r (tm_up h a (tm_o 2 (fs.set 0 (.int v))))))) := tm_r_puti (i := 9) (by decide +kernel) rfl (by decide +kernel)
theorem ws_U_keepIfLess_13 : tm_s M_U_keepIfLess d u0 Q u S n 13 L st h = tm_gA L 0 (fun x => tm_w M_U_keepIfLess d u0 Q u S n 14 L (.ref x :: st) h) := tm_r_aload_n (i := 0) (by decide +kernel) rfl rfl
theorem ws_U_keepIfLess_14 : tm_s M_U_keepIfLess d u0 Q u S n 14 L st h = tm_pA st (fun a r => tm_cO (h a) 2 (fun fs => tm_fv fs 3 (fun v => tm_w M_U_keepIfLess d u0 Q u S n 17 L (v :: r) h))) := tm_r_getf (i := 22) (by decide +kernel) rfl (by decide +kernel)
theorem ws_U_keepIfLess_17 : tm_s M_U_keepIfLess d u0 Q u S n 17 L st h = tm_w M_U_keepIfLess d u0 Q u S n 18 L (.int 0 :: st) h := tm_r_iconst (k := 0) (by decide +kernel) rfl (by decide)
theorem ws_U_keepIfLess_18 : tm_s M_U_keepIfLess d u0 Q u S n 18 L st h = tm_gA L 0 (fun x => tm_w M_U_keepIfLess d u0 Q u S n 19 L (.ref x :: st) h) := tm_r_aload_n (i := 0) (by decide +kernel) rfl rfl
theorem ws_U_keepIfLess_19 : tm_s M_U_keepIfLess d u0 Q u S n 19 L st h = tm_pA st (fun a r => tm_cO (h a) 2 (fun fs => tm_fv fs 1 (fun v => tm_w M_U_keepIfLess d u0 Q u S n 22 L (v :: r) h))) := tm_r_getf (i := 15) (by decide +kernel) rfl (by decide +kernel)
theorem ws_U_keepIfLess_22 : tm_s M_U_keepIfLess d u0 Q u S n 22 L st h = tm_w M_U_keepIfLess d u0 Q u S n 23 L (.int 0 :: st) h := tm_r_iconst (k := 0) (by decide +kernel) rfl (by decide)
theorem ws_U_keepIfLess_23 : tm_s M_U_keepIfLess d u0 Q u S n 23 L st h = tm_gI L 1 (fun x => tm_w M_U_keepIfLess d u0 Q u S n 24 L (.int x :: st) h) := tm_r_iload_n (i := 1) (by decide +kernel) rfl rfl
theorem dd_U_keepIfLess_24 : decode (tm_cc M_U_keepIfLess) 24 = .ok (.invokestatic 68, 3) := by decide +kernel
theorem ws_U_keepIfLess_24 : tm_s M_U_keepIfLess d u0 Q u S n 24 L st h = tm_T M_U_keepIfLess d u0 Q u 24 L st h := tm_r_invs dd_U_keepIfLess_24
theorem ws_U_keepIfLess_27 : tm_s M_U_keepIfLess d u0 Q u S n 27 L st h = (st = [] ∧ Q (.inl none) h) := tm_r_vret (by decide +kernel) rfl
theorem ws_U_bitsBehind_0 : tm_s M_U_bitsBehind d u0 Q u S n 0 L st h = tm_gI L 0 (fun x => tm_w M_U_bitsBehind d u0 Q u S n 1 L (.int x :: st) h) := tm_r_iload_n (i := 0) (by decide +kernel) rfl rfl
theorem ws_U_bitsBehind_1 : tm_s M_U_bitsBehind d u0 Q u S n 1 L st h = tm_gI L 0 (fun x => tm_w M_U_bitsBehind d u0 Q u S n 2 L (.int x :: st) h) := tm_r_iload_n (i := 0) (by decide +kernel) rfl rfl
theorem ws_U_bitsBehind_2 : tm_s M_U_bitsBehind d u0 Q u S n 2 L st h = tm_w M_U_bitsBehind d u0 Q u S n 3 L (.int 1 :: st) h := tm_r_iconst (k := 1) (by decide +kernel) rfl (by decide)
theorem ws_U_bitsBehind_3 : tm_s M_U_bitsBehind d u0 Q u S n 3 L st h = tm_p1 st (fun y r => tm_p1 r (fun x r => tm_w M_U_bitsBehind d u0 Q u S n 4 L (.int (x - y) :: r) h)) := tm_r_isub (by decide +kernel) rfl
theorem ws_U_bitsBehind_4 : tm_s M_U_bitsBehind d u0 Q u S n 4 L st h = tm_p1 st (fun y r => tm_p1 r (fun x r => tm_w M_U_bitsBehind d u0 Q u S n 5 L (.int (x * y) :: r) h)) := tm_r_imul (by decide +kernel) rfl
theorem ws_U_bitsBehind_5 : tm_s M_U_bitsBehind d u0 Q u S n 5 L st h = tm_w M_U_bitsBehind d u0 Q u S n 6 L (.int 2 :: st) h := tm_r_iconst (k := 2) (by decide +kernel) rfl (by decide)
theorem ws_U_bitsBehind_6 : tm_s M_U_bitsBehind d u0 Q u S n 6 L st h = tm_p1 st (fun y r => tm_p1 r (fun x r => ¬ y = 0 ∧ tm_w M_U_bitsBehind d u0 Q u S n 7 L (.int (x / y) :: r) h)) := tm_r_idiv (by decide +kernel) rfl
theorem ws_U_bitsBehind_7 : tm_s M_U_bitsBehind d u0 Q u S n 7 L st h = tm_gI L 1 (fun x => tm_w M_U_bitsBehind d u0 Q u S n 8 L (.int x :: st) h) := tm_r_iload_n (i := 1) (by decide +kernel) rfl rfl
theorem ws_U_bitsBehind_8 : tm_s M_U_bitsBehind d u0 Q u S n 8 L st h = tm_gI L 1 (fun x => tm_w M_U_bitsBehind d u0 Q u S n 9 L (.int x :: st) h) := tm_r_iload_n (i := 1) (by decide +kernel) rfl rfl
theorem ws_U_bitsBehind_9 : tm_s M_U_bitsBehind d u0 Q u S n 9 L st h = tm_w M_U_bitsBehind d u0 Q u S n 10 L (.int 1 :: st) h := tm_r_iconst (k := 1) (by decide +kernel) rfl (by decide)
theorem ws_U_bitsBehind_10 : tm_s M_U_bitsBehind d u0 Q u S n 10 L st h = tm_p1 st (fun y r => tm_p1 r (fun x r => tm_w M_U_bitsBehind d u0 Q u S n 11 L (.int (x + y) :: r) h)) := tm_r_iadd (by decide +kernel) rfl
theorem ws_U_bitsBehind_11 : tm_s M_U_bitsBehind d u0 Q u S n 11 L st h = tm_p1 st (fun y r => tm_p1 r (fun x r => tm_w M_U_bitsBehind d u0 Q u S n 12 L (.int (x * y) :: r) h)) := tm_r_imul (by decide +kernel) rfl
theorem ws_U_bitsBehind_12 : tm_s M_U_bitsBehind d u0 Q u S n 12 L st h = tm_w M_U_bitsBehind d u0 Q u S n 13 L (.int 2 :: st) h := tm_r_iconst (k := 2) (by decide +kernel) rfl (by decide)
theorem ws_U_bitsBehind_13 : tm_s M_U_bitsBehind d u0 Q u S n 13 L st h = tm_p1 st (fun y r => tm_p1 r (fun x r => ¬ y = 0 ∧ tm_w M_U_bitsBehind d u0 Q u S n 14 L (.int (x / y) :: r) h)) := tm_r_idiv (by decide +kernel) rfl
theorem ws_U_bitsBehind_14 : tm_s M_U_bitsBehind d u0 Q u S n 14 L st h = tm_p1 st (fun y r => tm_p1 r (fun x r => tm_w M_U_bitsBehind d u0 Q u S n 15 L (.int (x - y) :: r) h)) := tm_r_isub (by decide +kernel) rfl
theorem ws_U_bitsBehind_15 : tm_s M_U_bitsBehind d u0 Q u S n 15 L st h = tm_p1 st (fun x r => r = [] ∧ Q (.inl (some (.int x))) h) := tm_r_iret (by decide +kernel) rfl
theorem ws_U_leastColoured_0 : tm_s M_U_leastColoured d u0 Q u S n 0 L st h = tm_w M_U_leastColoured d u0 Q u S n 1 L (.int 0 :: st) h := tm_r_iconst (k := 0) (by decide +kernel) rfl (by decide)
theorem ws_U_leastColoured_1 : tm_s M_U_leastColoured d u0 Q u S n 1 L st h = tm_p1 st (fun x r => tm_w M_U_leastColoured d u0 Q u S n 2 (L.set 2 (some (.int x))) r h) := tm_r_istore_n (i := 2) (by decide +kernel) rfl rfl (by decide)
theorem ws_U_leastColoured_2 : tm_s M_U_leastColoured d u0 Q u S n 2 L st h = tm_gI L 2 (fun x => tm_w M_U_leastColoured d u0 Q u S n 3 L (.int x :: st) h) := tm_r_iload_n (i := 2) (by decide +kernel) rfl rfl
theorem ws_U_leastColoured_3 : tm_s M_U_leastColoured d u0 Q u S n 3 L st h = tm_w M_U_leastColoured d u0 Q u S n 4 L (.int 4 :: st) h := tm_r_iconst (k := 4) (by decide +kernel) rfl (by decide)
theorem ws_U_leastColoured_4 : tm_s M_U_leastColoured d u0 Q u S n 4 L st h = tm_p1 st (fun y r => tm_p1 r (fun x r => (y ≤ x → tm_w M_U_leastColoured d u0 Q u S n 27 L r h) ∧ (¬ y ≤ x → tm_w M_U_leastColoured d u0 Q u S n 7 L r h))) := tm_r_icge (off := 23) (by decide +kernel) rfl rfl
theorem ws_U_leastColoured_7 : tm_s M_U_leastColoured d u0 Q u S n 7 L st h = tm_gA L 0 (fun x => tm_w M_U_leastColoured d u0 Q u S n 8 L (.ref x :: st) h) := tm_r_aload_n (i := 0) (by decide +kernel) rfl rfl
theorem ws_U_leastColoured_8 : tm_s M_U_leastColoured d u0 Q u S n 8 L st h = tm_gI L 2 (fun x => tm_w M_U_leastColoured d u0 Q u S n 9 L (.int x :: st) h) := tm_r_iload_n (i := 2) (by decide +kernel) rfl rfl
theorem dd_U_leastColoured_9 : decode (tm_cc M_U_leastColoured) 9 = .ok (.invokevirtual 74, 3) := by decide +kernel
theorem ws_U_leastColoured_9 : tm_s M_U_leastColoured d u0 Q u S n 9 L st h = tm_T M_U_leastColoured d u0 Q u 9 L st h := tm_r_invv dd_U_leastColoured_9
theorem ws_U_leastColoured_12 : tm_s M_U_leastColoured d u0 Q u S n 12 L st h = tm_gI L 1 (fun x => tm_w M_U_leastColoured d u0 Q u S n 13 L (.int x :: st) h) := tm_r_iload_n (i := 1) (by decide +kernel) rfl rfl
theorem ws_U_leastColoured_13 : tm_s M_U_leastColoured d u0 Q u S n 13 L st h = tm_p1 st (fun y r => tm_p1 r (fun x r => tm_w M_U_leastColoured d u0 Q u S n 14 L (.int (x &&& y) :: r) h)) := tm_r_iand (by decide +kernel) rfl
theorem ws_U_leastColoured_14 : tm_s M_U_leastColoured d u0 Q u S n 14 L st h = tm_p1 st (fun x r => tm_w M_U_leastColoured d u0 Q u S n 15 (L.set 3 (some (.int x))) r h) := tm_r_istore_n (i := 3) (by decide +kernel) rfl rfl (by decide)
theorem ws_U_leastColoured_15 : tm_s M_U_leastColoured d u0 Q u S n 15 L st h = tm_gI L 3 (fun x => tm_w M_U_leastColoured d u0 Q u S n 16 L (.int x :: st) h) := tm_r_iload_n (i := 3) (by decide +kernel) rfl rfl
theorem ws_U_leastColoured_16 : tm_s M_U_leastColoured d u0 Q u S n 16 L st h = tm_p1 st (fun x r => (x = 0 → tm_w M_U_leastColoured d u0 Q u S n 21 L r h) ∧ (¬ x = 0 → tm_w M_U_leastColoured d u0 Q u S n 19 L r h)) := tm_r_ifeq (off := 5) (by decide +kernel) rfl rfl
theorem ws_U_leastColoured_19 : tm_s M_U_leastColoured d u0 Q u S n 19 L st h = tm_gI L 3 (fun x => tm_w M_U_leastColoured d u0 Q u S n 20 L (.int x :: st) h) := tm_r_iload_n (i := 3) (by decide +kernel) rfl rfl
theorem ws_U_leastColoured_20 : tm_s M_U_leastColoured d u0 Q u S n 20 L st h = tm_p1 st (fun x r => r = [] ∧ Q (.inl (some (.int x))) h) := tm_r_iret (by decide +kernel) rfl
theorem ws_U_leastColoured_21 : tm_s M_U_leastColoured d u0 Q u S n 21 L st h = tm_gI L 2 (fun x => tm_w M_U_leastColoured d u0 Q u S n 24 (L.set 2 (some (.int (x + 1)))) st h) := tm_r_iinc (j := 2) (k := 1) (by decide +kernel) rfl (by decide) (by decide)
theorem ws_U_leastColoured_24 : tm_s M_U_leastColoured d u0 Q u S n 24 L st h = tm_w M_U_leastColoured d u0 Q u S n 2 L st h := tm_r_goto (off := (-22)) (by decide +kernel) rfl
theorem ws_U_leastColoured_27 : tm_s M_U_leastColoured d u0 Q u S n 27 L st h = tm_w M_U_leastColoured d u0 Q u S n 28 L (.int 0 :: st) h := tm_r_iconst (k := 0) (by decide +kernel) rfl (by decide)
theorem ws_U_leastColoured_28 : tm_s M_U_leastColoured d u0 Q u S n 28 L st h = tm_p1 st (fun x r => r = [] ∧ Q (.inl (some (.int x))) h) := tm_r_iret (by decide +kernel) rfl
theorem ws_U_leastBits_0 : tm_s M_U_leastBits d u0 Q u S n 0 L st h = tm_w M_U_leastBits d u0 Q u S n 2 L (.int 2147483647 :: st) h := tm_r_ldc (i := 27) (by decide +kernel) rfl rfl
theorem ws_U_leastBits_2 : tm_s M_U_leastBits d u0 Q u S n 2 L st h = tm_p1 st (fun x r => tm_w M_U_leastBits d u0 Q u S n 4 (L.set 4 (some (.int x))) r h) := tm_r_istore (j := 4) (by decide +kernel) rfl (by decide)
theorem ws_U_leastBits_4 : tm_s M_U_leastBits d u0 Q u S n 4 L st h = tm_w M_U_leastBits d u0 Q u S n 5 L (.int 0 :: st) h := tm_r_iconst (k := 0) (by decide +kernel) rfl (by decide)
theorem ws_U_leastBits_5 : tm_s M_U_leastBits d u0 Q u S n 5 L st h = tm_p1 st (fun x r => tm_w M_U_leastBits d u0 Q u S n 7 (L.set 5 (some (.int x))) r h) := tm_r_istore (j := 5) (by decide +kernel) rfl (by decide)
theorem ws_U_leastBits_7 : tm_s M_U_leastBits d u0 Q u S n 7 L st h = tm_gI L 5 (fun x => tm_w M_U_leastBits d u0 Q u S n 9 L (.int x :: st) h) := tm_r_iload (j := 5) (by decide +kernel) rfl
theorem ws_U_leastBits_9 : tm_s M_U_leastBits d u0 Q u S n 9 L st h = tm_gA L 1 (fun x => tm_w M_U_leastBits d u0 Q u S n 10 L (.ref x :: st) h) := tm_r_aload_n (i := 1) (by decide +kernel) rfl rfl
theorem ws_U_leastBits_10 : tm_s M_U_leastBits d u0 Q u S n 10 L st h = tm_pA st (fun a r => tm_cO (h a) 1 (fun fs => tm_fv fs 0 (fun v => tm_w M_U_leastBits d u0 Q u S n 13 L (v :: r) h))) := tm_r_getf (i := 38) (by decide +kernel) rfl (by decide +kernel)
theorem ws_U_leastBits_13 : tm_s M_U_leastBits d u0 Q u S n 13 L st h = tm_p1 st (fun y r => tm_p1 r (fun x r => (y ≤ x → tm_w M_U_leastBits d u0 Q u S n 46 L r h) ∧ (¬ y ≤ x → tm_w M_U_leastBits d u0 Q u S n 16 L r h))) := tm_r_icge (off := 33) (by decide +kernel) rfl rfl
theorem ws_U_leastBits_16 : tm_s M_U_leastBits d u0 Q u S n 16 L st h = tm_gI L 3 (fun x => tm_w M_U_leastBits d u0 Q u S n 17 L (.int x :: st) h) := tm_r_iload_n (i := 3) (by decide +kernel) rfl rfl
theorem ws_U_leastBits_17 : tm_s M_U_leastBits d u0 Q u S n 17 L st h = tm_gI L 5 (fun x => tm_w M_U_leastBits d u0 Q u S n 19 L (.int x :: st) h) := tm_r_iload (j := 5) (by decide +kernel) rfl
theorem dd_U_leastBits_19 : decode (tm_cc M_U_leastBits) 19 = .ok (.invokestatic 57, 3) := by decide +kernel
theorem ws_U_leastBits_19 : tm_s M_U_leastBits d u0 Q u S n 19 L st h = tm_T M_U_leastBits d u0 Q u 19 L st h := tm_r_invs dd_U_leastBits_19
theorem ws_U_leastBits_22 : tm_s M_U_leastBits d u0 Q u S n 22 L st h = tm_p1 st (fun x r => (x = 0 → tm_w M_U_leastBits d u0 Q u S n 40 L r h) ∧ (¬ x = 0 → tm_w M_U_leastBits d u0 Q u S n 25 L r h)) := tm_r_ifeq (off := 18) (by decide +kernel) rfl rfl
theorem ws_U_leastBits_25 : tm_s M_U_leastBits d u0 Q u S n 25 L st h = tm_gI L 4 (fun x => tm_w M_U_leastBits d u0 Q u S n 27 L (.int x :: st) h) := tm_r_iload (j := 4) (by decide +kernel) rfl
theorem ws_U_leastBits_27 : tm_s M_U_leastBits d u0 Q u S n 27 L st h = tm_gA L 0 (fun x => tm_w M_U_leastBits d u0 Q u S n 28 L (.ref x :: st) h) := tm_r_aload_n (i := 0) (by decide +kernel) rfl rfl
theorem ws_U_leastBits_28 : tm_s M_U_leastBits d u0 Q u S n 28 L st h = tm_gA L 1 (fun x => tm_w M_U_leastBits d u0 Q u S n 29 L (.ref x :: st) h) := tm_r_aload_n (i := 1) (by decide +kernel) rfl rfl
theorem ws_U_leastBits_29 : tm_s M_U_leastBits d u0 Q u S n 29 L st h = tm_gI L 2 (fun x => tm_w M_U_leastBits d u0 Q u S n 30 L (.int x :: st) h) := tm_r_iload_n (i := 2) (by decide +kernel) rfl rfl
theorem ws_U_leastBits_30 : tm_s M_U_leastBits d u0 Q u S n 30 L st h = tm_gI L 5 (fun x => tm_w M_U_leastBits d u0 Q u S n 32 L (.int x :: st) h) := tm_r_iload (j := 5) (by decide +kernel) rfl
theorem dd_U_leastBits_32 : decode (tm_cc M_U_leastBits) 32 = .ok (.invokevirtual 61, 3) := by decide +kernel
theorem ws_U_leastBits_32 : tm_s M_U_leastBits d u0 Q u S n 32 L st h = tm_T M_U_leastBits d u0 Q u 32 L st h := tm_r_invv dd_U_leastBits_32
theorem dd_U_leastBits_35 : decode (tm_cc M_U_leastBits) 35 = .ok (.invokestatic 78, 3) := by decide +kernel
theorem ws_U_leastBits_35 : tm_s M_U_leastBits d u0 Q u S n 35 L st h = tm_T M_U_leastBits d u0 Q u 35 L st h := tm_r_invs dd_U_leastBits_35
theorem ws_U_leastBits_38 : tm_s M_U_leastBits d u0 Q u S n 38 L st h = tm_p1 st (fun x r => tm_w M_U_leastBits d u0 Q u S n 40 (L.set 4 (some (.int x))) r h) := tm_r_istore (j := 4) (by decide +kernel) rfl (by decide)
theorem ws_U_leastBits_40 : tm_s M_U_leastBits d u0 Q u S n 40 L st h = tm_gI L 5 (fun x => tm_w M_U_leastBits d u0 Q u S n 43 (L.set 5 (some (.int (x + 1)))) st h) := tm_r_iinc (j := 5) (k := 1) (by decide +kernel) rfl (by decide) (by decide)
theorem ws_U_leastBits_43 : tm_s M_U_leastBits d u0 Q u S n 43 L st h = tm_w M_U_leastBits d u0 Q u S n 7 L st h := tm_r_goto (off := (-36)) (by decide +kernel) rfl
theorem ws_U_leastBits_46 : tm_s M_U_leastBits d u0 Q u S n 46 L st h = tm_gI L 4 (fun x => tm_w M_U_leastBits d u0 Q u S n 48 L (.int x :: st) h) := tm_r_iload (j := 4) (by decide +kernel) rfl
theorem ws_U_leastBits_48 : tm_s M_U_leastBits d u0 Q u S n 48 L st h = tm_p1 st (fun x r => r = [] ∧ Q (.inl (some (.int x))) h) := tm_r_iret (by decide +kernel) rfl
theorem ws_U_bitsAt_0 : tm_s M_U_bitsAt d u0 Q u S n 0 L st h = tm_w M_U_bitsAt d u0 Q u S n 1 L (.int 0 :: st) h := tm_r_iconst (k := 0) (by decide +kernel) rfl (by decide)
theorem ws_U_bitsAt_1 : tm_s M_U_bitsAt d u0 Q u S n 1 L st h = tm_p1 st (fun x r => tm_w M_U_bitsAt d u0 Q u S n 3 (L.set 4 (some (.int x))) r h) := tm_r_istore (j := 4) (by decide +kernel) rfl (by decide)
theorem ws_U_bitsAt_3 : tm_s M_U_bitsAt d u0 Q u S n 3 L st h = tm_w M_U_bitsAt d u0 Q u S n 4 L (.int 0 :: st) h := tm_r_iconst (k := 0) (by decide +kernel) rfl (by decide)
theorem ws_U_bitsAt_4 : tm_s M_U_bitsAt d u0 Q u S n 4 L st h = tm_p1 st (fun x r => tm_w M_U_bitsAt d u0 Q u S n 6 (L.set 5 (some (.int x))) r h) := tm_r_istore (j := 5) (by decide +kernel) rfl (by decide)
theorem ws_U_bitsAt_6 : tm_s M_U_bitsAt d u0 Q u S n 6 L st h = tm_gI L 5 (fun x => tm_w M_U_bitsAt d u0 Q u S n 8 L (.int x :: st) h) := tm_r_iload (j := 5) (by decide +kernel) rfl
theorem ws_U_bitsAt_8 : tm_s M_U_bitsAt d u0 Q u S n 8 L st h = tm_gI L 2 (fun x => tm_w M_U_bitsAt d u0 Q u S n 9 L (.int x :: st) h) := tm_r_iload_n (i := 2) (by decide +kernel) rfl rfl
theorem ws_U_bitsAt_9 : tm_s M_U_bitsAt d u0 Q u S n 9 L st h = tm_p1 st (fun y r => tm_p1 r (fun x r => (y ≤ x → tm_w M_U_bitsAt d u0 Q u S n 45 L r h) ∧ (¬ y ≤ x → tm_w M_U_bitsAt d u0 Q u S n 12 L r h))) := tm_r_icge (off := 36) (by decide +kernel) rfl rfl
theorem ws_U_bitsAt_12 : tm_s M_U_bitsAt d u0 Q u S n 12 L st h = tm_gI L 4 (fun x => tm_w M_U_bitsAt d u0 Q u S n 14 L (.int x :: st) h) := tm_r_iload (j := 4) (by decide +kernel) rfl
theorem ws_U_bitsAt_14 : tm_s M_U_bitsAt d u0 Q u S n 14 L st h = tm_w M_U_bitsAt d u0 Q u S n 15 L (.int 1 :: st) h := tm_r_iconst (k := 1) (by decide +kernel) rfl (by decide)
theorem ws_U_bitsAt_15 : tm_s M_U_bitsAt d u0 Q u S n 15 L st h = tm_p1 st (fun y r => tm_p1 r (fun x r => tm_w M_U_bitsAt d u0 Q u S n 16 L (.int (x <<< (y &&& 31)) :: r) h)) := tm_r_ishl (by decide +kernel) rfl
theorem ws_U_bitsAt_16 : tm_s M_U_bitsAt d u0 Q u S n 16 L st h = tm_gA L 1 (fun x => tm_w M_U_bitsAt d u0 Q u S n 17 L (.ref x :: st) h) := tm_r_aload_n (i := 1) (by decide +kernel) rfl rfl
theorem ws_U_bitsAt_17 : tm_s M_U_bitsAt d u0 Q u S n 17 L st h = tm_gI L 3 (fun x => tm_w M_U_bitsAt d u0 Q u S n 18 L (.int x :: st) h) := tm_r_iload_n (i := 3) (by decide +kernel) rfl rfl
theorem ws_U_bitsAt_18 : tm_s M_U_bitsAt d u0 Q u S n 18 L st h = tm_gA L 0 (fun x => tm_w M_U_bitsAt d u0 Q u S n 19 L (.ref x :: st) h) := tm_r_aload_n (i := 0) (by decide +kernel) rfl rfl
theorem ws_U_bitsAt_19 : tm_s M_U_bitsAt d u0 Q u S n 19 L st h = tm_pA st (fun a r => tm_cO (h a) 2 (fun fs => tm_fv fs 3 (fun v => tm_w M_U_bitsAt d u0 Q u S n 22 L (v :: r) h))) := tm_r_getf (i := 22) (by decide +kernel) rfl (by decide +kernel)
theorem ws_U_bitsAt_22 : tm_s M_U_bitsAt d u0 Q u S n 22 L st h = tm_gI L 5 (fun x => tm_w M_U_bitsAt d u0 Q u S n 24 L (.int x :: st) h) := tm_r_iload (j := 5) (by decide +kernel) rfl
theorem ws_U_bitsAt_24 : tm_s M_U_bitsAt d u0 Q u S n 24 L st h = tm_p1 st (fun i r => tm_pA r (fun a r => tm_cI (h a) (fun k f => vp_in i k ∧ tm_w M_U_bitsAt d u0 Q u S n 25 L (.int (f i.toNatClampNeg) :: r) h))) := tm_r_iaload (by decide +kernel) rfl
theorem dd_U_bitsAt_25 : decode (tm_cc M_U_bitsAt) 25 = .ok (.invokevirtual 83, 3) := by decide +kernel
theorem ws_U_bitsAt_25 : tm_s M_U_bitsAt d u0 Q u S n 25 L st h = tm_T M_U_bitsAt d u0 Q u 25 L st h := tm_r_invv dd_U_bitsAt_25
theorem ws_U_bitsAt_28 : tm_s M_U_bitsAt d u0 Q u S n 28 L st h = tm_p1 st (fun x r => (x = 0 → tm_w M_U_bitsAt d u0 Q u S n 35 L r h) ∧ (¬ x = 0 → tm_w M_U_bitsAt d u0 Q u S n 31 L r h)) := tm_r_ifeq (off := 7) (by decide +kernel) rfl rfl
theorem ws_U_bitsAt_31 : tm_s M_U_bitsAt d u0 Q u S n 31 L st h = tm_w M_U_bitsAt d u0 Q u S n 32 L (.int 1 :: st) h := tm_r_iconst (k := 1) (by decide +kernel) rfl (by decide)
theorem ws_U_bitsAt_32 : tm_s M_U_bitsAt d u0 Q u S n 32 L st h = tm_w M_U_bitsAt d u0 Q u S n 36 L st h := tm_r_goto (off := 4) (by decide +kernel) rfl
theorem ws_U_bitsAt_35 : tm_s M_U_bitsAt d u0 Q u S n 35 L st h = tm_w M_U_bitsAt d u0 Q u S n 36 L (.int 0 :: st) h := tm_r_iconst (k := 0) (by decide +kernel) rfl (by decide)
theorem ws_U_bitsAt_36 : tm_s M_U_bitsAt d u0 Q u S n 36 L st h = tm_p1 st (fun y r => tm_p1 r (fun x r => tm_w M_U_bitsAt d u0 Q u S n 37 L (.int (x ||| y) :: r) h)) := tm_r_ior (by decide +kernel) rfl
theorem ws_U_bitsAt_37 : tm_s M_U_bitsAt d u0 Q u S n 37 L st h = tm_p1 st (fun x r => tm_w M_U_bitsAt d u0 Q u S n 39 (L.set 4 (some (.int x))) r h) := tm_r_istore (j := 4) (by decide +kernel) rfl (by decide)
theorem ws_U_bitsAt_39 : tm_s M_U_bitsAt d u0 Q u S n 39 L st h = tm_gI L 5 (fun x => tm_w M_U_bitsAt d u0 Q u S n 42 (L.set 5 (some (.int (x + 1)))) st h) := tm_r_iinc (j := 5) (k := 1) (by decide +kernel) rfl (by decide) (by decide)
theorem ws_U_bitsAt_42 : tm_s M_U_bitsAt d u0 Q u S n 42 L st h = tm_w M_U_bitsAt d u0 Q u S n 6 L st h := tm_r_goto (off := (-36)) (by decide +kernel) rfl
theorem ws_U_bitsAt_45 : tm_s M_U_bitsAt d u0 Q u S n 45 L st h = tm_gI L 4 (fun x => tm_w M_U_bitsAt d u0 Q u S n 47 L (.int x :: st) h) := tm_r_iload (j := 4) (by decide +kernel) rfl
theorem ws_U_bitsAt_47 : tm_s M_U_bitsAt d u0 Q u S n 47 L st h = tm_p1 st (fun x r => r = [] ∧ Q (.inl (some (.int x))) h) := tm_r_iret (by decide +kernel) rfl
theorem ws_U_hasLesserTwin_0 : tm_s M_U_hasLesserTwin d u0 Q u S n 0 L st h = tm_w M_U_hasLesserTwin d u0 Q u S n 1 L (.int 0 :: st) h := tm_r_iconst (k := 0) (by decide +kernel) rfl (by decide)
theorem ws_U_hasLesserTwin_1 : tm_s M_U_hasLesserTwin d u0 Q u S n 1 L st h = tm_p1 st (fun x r => tm_w M_U_hasLesserTwin d u0 Q u S n 2 (L.set 3 (some (.int x))) r h) := tm_r_istore_n (i := 3) (by decide +kernel) rfl rfl (by decide)
theorem ws_U_hasLesserTwin_2 : tm_s M_U_hasLesserTwin d u0 Q u S n 2 L st h = tm_gI L 3 (fun x => tm_w M_U_hasLesserTwin d u0 Q u S n 3 L (.int x :: st) h) := tm_r_iload_n (i := 3) (by decide +kernel) rfl rfl
theorem ws_U_hasLesserTwin_3 : tm_s M_U_hasLesserTwin d u0 Q u S n 3 L st h = tm_gI L 1 (fun x => tm_w M_U_hasLesserTwin d u0 Q u S n 4 L (.int x :: st) h) := tm_r_iload_n (i := 1) (by decide +kernel) rfl rfl
theorem ws_U_hasLesserTwin_4 : tm_s M_U_hasLesserTwin d u0 Q u S n 4 L st h = tm_p1 st (fun y r => tm_p1 r (fun x r => (y ≤ x → tm_w M_U_hasLesserTwin d u0 Q u S n 32 L r h) ∧ (¬ y ≤ x → tm_w M_U_hasLesserTwin d u0 Q u S n 7 L r h))) := tm_r_icge (off := 28) (by decide +kernel) rfl rfl
theorem ws_U_hasLesserTwin_7 : tm_s M_U_hasLesserTwin d u0 Q u S n 7 L st h = tm_gI L 2 (fun x => tm_w M_U_hasLesserTwin d u0 Q u S n 8 L (.int x :: st) h) := tm_r_iload_n (i := 2) (by decide +kernel) rfl rfl
theorem ws_U_hasLesserTwin_8 : tm_s M_U_hasLesserTwin d u0 Q u S n 8 L st h = tm_gI L 3 (fun x => tm_w M_U_hasLesserTwin d u0 Q u S n 9 L (.int x :: st) h) := tm_r_iload_n (i := 3) (by decide +kernel) rfl rfl
theorem dd_U_hasLesserTwin_9 : decode (tm_cc M_U_hasLesserTwin) 9 = .ok (.invokestatic 57, 3) := by decide +kernel
theorem ws_U_hasLesserTwin_9 : tm_s M_U_hasLesserTwin d u0 Q u S n 9 L st h = tm_T M_U_hasLesserTwin d u0 Q u 9 L st h := tm_r_invs dd_U_hasLesserTwin_9
theorem ws_U_hasLesserTwin_12 : tm_s M_U_hasLesserTwin d u0 Q u S n 12 L st h = tm_p1 st (fun x r => (x = 0 → tm_w M_U_hasLesserTwin d u0 Q u S n 26 L r h) ∧ (¬ x = 0 → tm_w M_U_hasLesserTwin d u0 Q u S n 15 L r h)) := tm_r_ifeq (off := 14) (by decide +kernel) rfl rfl
theorem ws_U_hasLesserTwin_15 : tm_s M_U_hasLesserTwin d u0 Q u S n 15 L st h = tm_gA L 0 (fun x => tm_w M_U_hasLesserTwin d u0 Q u S n 16 L (.ref x :: st) h) := tm_r_aload_n (i := 0) (by decide +kernel) rfl rfl
theorem ws_U_hasLesserTwin_16 : tm_s M_U_hasLesserTwin d u0 Q u S n 16 L st h = tm_gI L 3 (fun x => tm_w M_U_hasLesserTwin d u0 Q u S n 17 L (.int x :: st) h) := tm_r_iload_n (i := 3) (by decide +kernel) rfl rfl
theorem ws_U_hasLesserTwin_17 : tm_s M_U_hasLesserTwin d u0 Q u S n 17 L st h = tm_gI L 1 (fun x => tm_w M_U_hasLesserTwin d u0 Q u S n 18 L (.int x :: st) h) := tm_r_iload_n (i := 1) (by decide +kernel) rfl rfl
theorem dd_U_hasLesserTwin_18 : decode (tm_cc M_U_hasLesserTwin) 18 = .ok (.invokevirtual 86, 3) := by decide +kernel
theorem ws_U_hasLesserTwin_18 : tm_s M_U_hasLesserTwin d u0 Q u S n 18 L st h = tm_T M_U_hasLesserTwin d u0 Q u 18 L st h := tm_r_invv dd_U_hasLesserTwin_18
theorem ws_U_hasLesserTwin_21 : tm_s M_U_hasLesserTwin d u0 Q u S n 21 L st h = tm_p1 st (fun x r => (x = 0 → tm_w M_U_hasLesserTwin d u0 Q u S n 26 L r h) ∧ (¬ x = 0 → tm_w M_U_hasLesserTwin d u0 Q u S n 24 L r h)) := tm_r_ifeq (off := 5) (by decide +kernel) rfl rfl
theorem ws_U_hasLesserTwin_24 : tm_s M_U_hasLesserTwin d u0 Q u S n 24 L st h = tm_w M_U_hasLesserTwin d u0 Q u S n 25 L (.int 1 :: st) h := tm_r_iconst (k := 1) (by decide +kernel) rfl (by decide)
theorem ws_U_hasLesserTwin_25 : tm_s M_U_hasLesserTwin d u0 Q u S n 25 L st h = tm_p1 st (fun x r => r = [] ∧ (x = 0 ∨ x = 1) ∧ Q (.inl (some (.int x))) h) := tm_r_zret (by decide +kernel) rfl
theorem ws_U_hasLesserTwin_26 : tm_s M_U_hasLesserTwin d u0 Q u S n 26 L st h = tm_gI L 3 (fun x => tm_w M_U_hasLesserTwin d u0 Q u S n 29 (L.set 3 (some (.int (x + 1)))) st h) := tm_r_iinc (j := 3) (k := 1) (by decide +kernel) rfl (by decide) (by decide)
theorem ws_U_hasLesserTwin_29 : tm_s M_U_hasLesserTwin d u0 Q u S n 29 L st h = tm_w M_U_hasLesserTwin d u0 Q u S n 2 L st h := tm_r_goto (off := (-27)) (by decide +kernel) rfl
theorem ws_U_hasLesserTwin_32 : tm_s M_U_hasLesserTwin d u0 Q u S n 32 L st h = tm_w M_U_hasLesserTwin d u0 Q u S n 33 L (.int 0 :: st) h := tm_r_iconst (k := 0) (by decide +kernel) rfl (by decide)
theorem ws_U_hasLesserTwin_33 : tm_s M_U_hasLesserTwin d u0 Q u S n 33 L st h = tm_p1 st (fun x r => r = [] ∧ (x = 0 ∨ x = 1) ∧ Q (.inl (some (.int x))) h) := tm_r_zret (by decide +kernel) rfl
end WSU
