section WSY
variable {d u0 u : Nat} {Q : tm_O → tm_Hp → Prop} {S : List Nat} {n : Nat} {L : List (Option Value)} {st : List Value} {h : tm_Hp}
theorem dd_Y_init_0 : decode (tm_cc M_Y_init) 0 = .ok (.aload_n 0, 1) := by decide +kernel
theorem dd_Y_init_1 : decode (tm_cc M_Y_init) 1 = .ok (.invokespecial 3, 3) := by decide +kernel
theorem dd_Y_init_4 : decode (tm_cc M_Y_init) 4 = .ok (.aload_n 0, 1) := by decide +kernel
theorem dd_Y_init_5 : decode (tm_cc M_Y_init) 5 = .ok (.bipush 7, 2) := by decide +kernel
theorem dd_Y_init_7 : decode (tm_cc M_Y_init) 7 = .ok (.newarray .int, 2) := by decide +kernel
theorem dd_Y_init_9 : decode (tm_cc M_Y_init) 9 = .ok (.putfield 9, 3) := by decide +kernel
theorem dd_Y_init_12 : decode (tm_cc M_Y_init) 12 = .ok (.return_, 1) := by decide +kernel
theorem ws_Y_number_0 : tm_s M_Y_number d u0 Q u S n 0 L st h = tm_w M_Y_number d u0 Q u S n 1 L (.int 1 :: st) h := tm_r_iconst (k := 1) (by decide +kernel) rfl (by decide)
theorem ws_Y_number_1 : tm_s M_Y_number d u0 Q u S n 1 L st h = tm_p1 st (fun x r => tm_w M_Y_number d u0 Q u S n 2 (L.set 3 (some (.int x))) r h) := tm_r_istore_n (i := 3) (by decide +kernel) rfl rfl (by decide)
theorem ws_Y_number_2 : tm_s M_Y_number d u0 Q u S n 2 L st h = tm_gI L 2 (fun x => tm_w M_Y_number d u0 Q u S n 3 L (.int x :: st) h) := tm_r_iload_n (i := 2) (by decide +kernel) rfl rfl
theorem ws_Y_number_3 : tm_s M_Y_number d u0 Q u S n 3 L st h = tm_p1 st (fun x r => tm_w M_Y_number d u0 Q u S n 5 (L.set 4 (some (.int x))) r h) := tm_r_istore (j := 4) (by decide +kernel) rfl (by decide)
theorem ws_Y_number_5 : tm_s M_Y_number d u0 Q u S n 5 L st h = tm_w M_Y_number d u0 Q u S n 6 L (.int 0 :: st) h := tm_r_iconst (k := 0) (by decide +kernel) rfl (by decide)
theorem ws_Y_number_6 : tm_s M_Y_number d u0 Q u S n 6 L st h = tm_p1 st (fun x r => tm_w M_Y_number d u0 Q u S n 8 (L.set 5 (some (.int x))) r h) := tm_r_istore (j := 5) (by decide +kernel) rfl (by decide)
theorem ws_Y_number_8 : tm_s M_Y_number d u0 Q u S n 8 L st h = tm_gI L 5 (fun x => tm_w M_Y_number d u0 Q u S n 10 L (.int x :: st) h) := tm_r_iload (j := 5) (by decide +kernel) rfl
theorem ws_Y_number_10 : tm_s M_Y_number d u0 Q u S n 10 L st h = tm_gA L 1 (fun x => tm_w M_Y_number d u0 Q u S n 11 L (.ref x :: st) h) := tm_r_aload_n (i := 1) (by decide +kernel) rfl rfl
theorem ws_Y_number_11 : tm_s M_Y_number d u0 Q u S n 11 L st h = tm_pA st (fun a r => tm_cO (h a) 1 (fun fs => tm_fv fs 0 (fun v => tm_w M_Y_number d u0 Q u S n 14 L (v :: r) h))) := tm_r_getf (i := 15) (by decide +kernel) rfl (by decide +kernel)
theorem ws_Y_number_14 : tm_s M_Y_number d u0 Q u S n 14 L st h = tm_p1 st (fun y r => tm_p1 r (fun x r => (y ≤ x → tm_w M_Y_number d u0 Q u S n 47 L r h) ∧ (¬ y ≤ x → tm_w M_Y_number d u0 Q u S n 17 L r h))) := tm_r_icge (off := 33) (by decide +kernel) rfl rfl
theorem ws_Y_number_17 : tm_s M_Y_number d u0 Q u S n 17 L st h = tm_gI L 3 (fun x => tm_w M_Y_number d u0 Q u S n 18 L (.int x :: st) h) := tm_r_iload_n (i := 3) (by decide +kernel) rfl rfl
theorem ws_Y_number_18 : tm_s M_Y_number d u0 Q u S n 18 L st h = tm_gA L 0 (fun x => tm_w M_Y_number d u0 Q u S n 19 L (.ref x :: st) h) := tm_r_aload_n (i := 0) (by decide +kernel) rfl rfl
theorem ws_Y_number_19 : tm_s M_Y_number d u0 Q u S n 19 L st h = tm_gA L 1 (fun x => tm_w M_Y_number d u0 Q u S n 20 L (.ref x :: st) h) := tm_r_aload_n (i := 1) (by decide +kernel) rfl rfl
theorem ws_Y_number_20 : tm_s M_Y_number d u0 Q u S n 20 L st h = tm_gI L 5 (fun x => tm_w M_Y_number d u0 Q u S n 22 L (.int x :: st) h) := tm_r_iload (j := 5) (by decide +kernel) rfl
theorem ws_Y_number_22 : tm_s M_Y_number d u0 Q u S n 22 L st h = tm_gI L 4 (fun x => tm_w M_Y_number d u0 Q u S n 24 L (.int x :: st) h) := tm_r_iload (j := 4) (by decide +kernel) rfl
theorem dd_Y_number_24 : decode (tm_cc M_Y_number) 24 = .ok (.invokevirtual 21, 3) := by decide +kernel
theorem ws_Y_number_24 : tm_s M_Y_number d u0 Q u S n 24 L st h = tm_T M_Y_number d u0 Q u 24 L st h := tm_r_invv dd_Y_number_24
theorem dd_Y_number_27 : decode (tm_cc M_Y_number) 27 = .ok (.invokestatic 25, 3) := by decide +kernel
theorem ws_Y_number_27 : tm_s M_Y_number d u0 Q u S n 27 L st h = tm_T M_Y_number d u0 Q u 27 L st h := tm_r_invs dd_Y_number_27
theorem ws_Y_number_30 : tm_s M_Y_number d u0 Q u S n 30 L st h = tm_p1 st (fun y r => tm_p1 r (fun x r => tm_w M_Y_number d u0 Q u S n 31 L (.int (x * y) :: r) h)) := tm_r_imul (by decide +kernel) rfl
theorem ws_Y_number_31 : tm_s M_Y_number d u0 Q u S n 31 L st h = tm_p1 st (fun x r => tm_w M_Y_number d u0 Q u S n 32 (L.set 3 (some (.int x))) r h) := tm_r_istore_n (i := 3) (by decide +kernel) rfl rfl (by decide)
theorem ws_Y_number_32 : tm_s M_Y_number d u0 Q u S n 32 L st h = tm_gI L 4 (fun x => tm_w M_Y_number d u0 Q u S n 34 L (.int x :: st) h) := tm_r_iload (j := 4) (by decide +kernel) rfl
theorem ws_Y_number_34 : tm_s M_Y_number d u0 Q u S n 34 L st h = tm_w M_Y_number d u0 Q u S n 35 L (.int 1 :: st) h := tm_r_iconst (k := 1) (by decide +kernel) rfl (by decide)
theorem ws_Y_number_35 : tm_s M_Y_number d u0 Q u S n 35 L st h = tm_gI L 5 (fun x => tm_w M_Y_number d u0 Q u S n 37 L (.int x :: st) h) := tm_r_iload (j := 5) (by decide +kernel) rfl
theorem ws_Y_number_37 : tm_s M_Y_number d u0 Q u S n 37 L st h = tm_p1 st (fun y r => tm_p1 r (fun x r => tm_w M_Y_number d u0 Q u S n 38 L (.int (x <<< (y &&& 31)) :: r) h)) := tm_r_ishl (by decide +kernel) rfl
theorem ws_Y_number_38 : tm_s M_Y_number d u0 Q u S n 38 L st h = tm_p1 st (fun y r => tm_p1 r (fun x r => tm_w M_Y_number d u0 Q u S n 39 L (.int (x ||| y) :: r) h)) := tm_r_ior (by decide +kernel) rfl
theorem ws_Y_number_39 : tm_s M_Y_number d u0 Q u S n 39 L st h = tm_p1 st (fun x r => tm_w M_Y_number d u0 Q u S n 41 (L.set 4 (some (.int x))) r h) := tm_r_istore (j := 4) (by decide +kernel) rfl (by decide)
theorem ws_Y_number_41 : tm_s M_Y_number d u0 Q u S n 41 L st h = tm_gI L 5 (fun x => tm_w M_Y_number d u0 Q u S n 44 (L.set 5 (some (.int (x + 1)))) st h) := tm_r_iinc (j := 5) (k := 1) (by decide +kernel) rfl (by decide) (by decide)
theorem ws_Y_number_44 : tm_s M_Y_number d u0 Q u S n 44 L st h = tm_w M_Y_number d u0 Q u S n 8 L st h := tm_r_goto (off := (-36)) (by decide +kernel) rfl
theorem ws_Y_number_47 : tm_s M_Y_number d u0 Q u S n 47 L st h = tm_gI L 3 (fun x => tm_w M_Y_number d u0 Q u S n 48 L (.int x :: st) h) := tm_r_iload_n (i := 3) (by decide +kernel) rfl rfl
theorem ws_Y_number_48 : tm_s M_Y_number d u0 Q u S n 48 L st h = tm_p1 st (fun x r => r = [] ∧ Q (.inl (some (.int x))) h) := tm_r_iret (by decide +kernel) rfl
theorem ws_Y_reach_0 : tm_s M_Y_reach d u0 Q u S n 0 L st h = tm_w M_Y_reach d u0 Q u S n 1 L (.int 0 :: st) h := tm_r_iconst (k := 0) (by decide +kernel) rfl (by decide)
theorem ws_Y_reach_1 : tm_s M_Y_reach d u0 Q u S n 1 L st h = tm_p1 st (fun x r => tm_w M_Y_reach d u0 Q u S n 3 (L.set 4 (some (.int x))) r h) := tm_r_istore (j := 4) (by decide +kernel) rfl (by decide)
theorem ws_Y_reach_3 : tm_s M_Y_reach d u0 Q u S n 3 L st h = tm_w M_Y_reach d u0 Q u S n 4 L (.int 0 :: st) h := tm_r_iconst (k := 0) (by decide +kernel) rfl (by decide)
theorem ws_Y_reach_4 : tm_s M_Y_reach d u0 Q u S n 4 L st h = tm_p1 st (fun x r => tm_w M_Y_reach d u0 Q u S n 6 (L.set 5 (some (.int x))) r h) := tm_r_istore (j := 5) (by decide +kernel) rfl (by decide)
theorem ws_Y_reach_6 : tm_s M_Y_reach d u0 Q u S n 6 L st h = tm_gI L 5 (fun x => tm_w M_Y_reach d u0 Q u S n 8 L (.int x :: st) h) := tm_r_iload (j := 5) (by decide +kernel) rfl
theorem ws_Y_reach_8 : tm_s M_Y_reach d u0 Q u S n 8 L st h = tm_gA L 1 (fun x => tm_w M_Y_reach d u0 Q u S n 9 L (.ref x :: st) h) := tm_r_aload_n (i := 1) (by decide +kernel) rfl rfl
theorem ws_Y_reach_9 : tm_s M_Y_reach d u0 Q u S n 9 L st h = tm_pA st (fun a r => tm_cO (h a) 1 (fun fs => tm_fv fs 0 (fun v => tm_w M_Y_reach d u0 Q u S n 12 L (v :: r) h))) := tm_r_getf (i := 15) (by decide +kernel) rfl (by decide +kernel)
theorem ws_Y_reach_12 : tm_s M_Y_reach d u0 Q u S n 12 L st h = tm_p1 st (fun y r => tm_p1 r (fun x r => (y ≤ x → tm_w M_Y_reach d u0 Q u S n 42 L r h) ∧ (¬ y ≤ x → tm_w M_Y_reach d u0 Q u S n 15 L r h))) := tm_r_icge (off := 30) (by decide +kernel) rfl rfl
theorem ws_Y_reach_15 : tm_s M_Y_reach d u0 Q u S n 15 L st h = tm_gA L 0 (fun x => tm_w M_Y_reach d u0 Q u S n 16 L (.ref x :: st) h) := tm_r_aload_n (i := 0) (by decide +kernel) rfl rfl
theorem ws_Y_reach_16 : tm_s M_Y_reach d u0 Q u S n 16 L st h = tm_gA L 1 (fun x => tm_w M_Y_reach d u0 Q u S n 17 L (.ref x :: st) h) := tm_r_aload_n (i := 1) (by decide +kernel) rfl rfl
theorem ws_Y_reach_17 : tm_s M_Y_reach d u0 Q u S n 17 L st h = tm_gI L 2 (fun x => tm_w M_Y_reach d u0 Q u S n 18 L (.int x :: st) h) := tm_r_iload_n (i := 2) (by decide +kernel) rfl rfl
theorem ws_Y_reach_18 : tm_s M_Y_reach d u0 Q u S n 18 L st h = tm_gI L 5 (fun x => tm_w M_Y_reach d u0 Q u S n 20 L (.int x :: st) h) := tm_r_iload (j := 5) (by decide +kernel) rfl
theorem ws_Y_reach_20 : tm_s M_Y_reach d u0 Q u S n 20 L st h = tm_gI L 3 (fun x => tm_w M_Y_reach d u0 Q u S n 21 L (.int x :: st) h) := tm_r_iload_n (i := 3) (by decide +kernel) rfl rfl
theorem dd_Y_reach_21 : decode (tm_cc M_Y_reach) 21 = .ok (.invokevirtual 31, 3) := by decide +kernel
theorem ws_Y_reach_21 : tm_s M_Y_reach d u0 Q u S n 21 L st h = tm_T M_Y_reach d u0 Q u 21 L st h := tm_r_invv dd_Y_reach_21
theorem ws_Y_reach_24 : tm_s M_Y_reach d u0 Q u S n 24 L st h = tm_p1 st (fun x r => (x = 0 → tm_w M_Y_reach d u0 Q u S n 36 L r h) ∧ (¬ x = 0 → tm_w M_Y_reach d u0 Q u S n 27 L r h)) := tm_r_ifeq (off := 12) (by decide +kernel) rfl rfl
theorem ws_Y_reach_27 : tm_s M_Y_reach d u0 Q u S n 27 L st h = tm_gI L 4 (fun x => tm_w M_Y_reach d u0 Q u S n 29 L (.int x :: st) h) := tm_r_iload (j := 4) (by decide +kernel) rfl
theorem ws_Y_reach_29 : tm_s M_Y_reach d u0 Q u S n 29 L st h = tm_w M_Y_reach d u0 Q u S n 30 L (.int 1 :: st) h := tm_r_iconst (k := 1) (by decide +kernel) rfl (by decide)
theorem ws_Y_reach_30 : tm_s M_Y_reach d u0 Q u S n 30 L st h = tm_gI L 5 (fun x => tm_w M_Y_reach d u0 Q u S n 32 L (.int x :: st) h) := tm_r_iload (j := 5) (by decide +kernel) rfl
theorem ws_Y_reach_32 : tm_s M_Y_reach d u0 Q u S n 32 L st h = tm_p1 st (fun y r => tm_p1 r (fun x r => tm_w M_Y_reach d u0 Q u S n 33 L (.int (x <<< (y &&& 31)) :: r) h)) := tm_r_ishl (by decide +kernel) rfl
theorem ws_Y_reach_33 : tm_s M_Y_reach d u0 Q u S n 33 L st h = tm_p1 st (fun y r => tm_p1 r (fun x r => tm_w M_Y_reach d u0 Q u S n 34 L (.int (x ||| y) :: r) h)) := tm_r_ior (by decide +kernel) rfl
theorem ws_Y_reach_34 : tm_s M_Y_reach d u0 Q u S n 34 L st h = tm_p1 st (fun x r => tm_w M_Y_reach d u0 Q u S n 36 (L.set 4 (some (.int x))) r h) := tm_r_istore (j := 4) (by decide +kernel) rfl (by decide)
theorem ws_Y_reach_36 : tm_s M_Y_reach d u0 Q u S n 36 L st h = tm_gI L 5 (fun x => tm_w M_Y_reach d u0 Q u S n 39 (L.set 5 (some (.int (x + 1)))) st h) := tm_r_iinc (j := 5) (k := 1) (by decide +kernel) rfl (by decide) (by decide)
theorem ws_Y_reach_39 : tm_s M_Y_reach d u0 Q u S n 39 L st h = tm_w M_Y_reach d u0 Q u S n 6 L st h := tm_r_goto (off := (-33)) (by decide +kernel) rfl
theorem ws_Y_reach_42 : tm_s M_Y_reach d u0 Q u S n 42 L st h = tm_gI L 4 (fun x => tm_w M_Y_reach d u0 Q u S n 44 L (.int x :: st) h) := tm_r_iload (j := 4) (by decide +kernel) rfl
theorem ws_Y_reach_44 : tm_s M_Y_reach d u0 Q u S n 44 L st h = tm_p1 st (fun x r => r = [] ∧ Q (.inl (some (.int x))) h) := tm_r_iret (by decide +kernel) rfl
theorem ws_Y_carries_0 : tm_s M_Y_carries d u0 Q u S n 0 L st h = tm_gI L 2 (fun x => tm_w M_Y_carries d u0 Q u S n 1 L (.int x :: st) h) := tm_r_iload_n (i := 2) (by decide +kernel) rfl rfl
theorem ws_Y_carries_1 : tm_s M_Y_carries d u0 Q u S n 1 L st h = tm_gI L 3 (fun x => tm_w M_Y_carries d u0 Q u S n 2 L (.int x :: st) h) := tm_r_iload_n (i := 3) (by decide +kernel) rfl rfl
theorem ws_Y_carries_2 : tm_s M_Y_carries d u0 Q u S n 2 L st h = tm_p1 st (fun y r => tm_p1 r (fun x r => (¬ x = y → tm_w M_Y_carries d u0 Q u S n 7 L r h) ∧ (¬ ¬ x = y → tm_w M_Y_carries d u0 Q u S n 5 L r h))) := tm_r_icne (off := 5) (by decide +kernel) rfl rfl
theorem ws_Y_carries_5 : tm_s M_Y_carries d u0 Q u S n 5 L st h = tm_w M_Y_carries d u0 Q u S n 6 L (.int 1 :: st) h := tm_r_iconst (k := 1) (by decide +kernel) rfl (by decide)
theorem ws_Y_carries_6 : tm_s M_Y_carries d u0 Q u S n 6 L st h = tm_p1 st (fun x r => r = [] ∧ (x = 0 ∨ x = 1) ∧ Q (.inl (some (.int x))) h) := tm_r_zret (by decide +kernel) rfl
theorem ws_Y_carries_7 : tm_s M_Y_carries d u0 Q u S n 7 L st h = tm_gI L 4 (fun x => tm_w M_Y_carries d u0 Q u S n 9 L (.int x :: st) h) := tm_r_iload (j := 4) (by decide +kernel) rfl
theorem ws_Y_carries_9 : tm_s M_Y_carries d u0 Q u S n 9 L st h = tm_gI L 2 (fun x => tm_w M_Y_carries d u0 Q u S n 10 L (.int x :: st) h) := tm_r_iload_n (i := 2) (by decide +kernel) rfl rfl
theorem dd_Y_carries_10 : decode (tm_cc M_Y_carries) 10 = .ok (.invokestatic 35, 3) := by decide +kernel
theorem ws_Y_carries_10 : tm_s M_Y_carries d u0 Q u S n 10 L st h = tm_T M_Y_carries d u0 Q u 10 L st h := tm_r_invs dd_Y_carries_10
theorem ws_Y_carries_13 : tm_s M_Y_carries d u0 Q u S n 13 L st h = tm_p1 st (fun x r => (¬ x = 0 → tm_w M_Y_carries d u0 Q u S n 25 L r h) ∧ (¬ ¬ x = 0 → tm_w M_Y_carries d u0 Q u S n 16 L r h)) := tm_r_ifne (off := 12) (by decide +kernel) rfl rfl
theorem ws_Y_carries_16 : tm_s M_Y_carries d u0 Q u S n 16 L st h = tm_gI L 4 (fun x => tm_w M_Y_carries d u0 Q u S n 18 L (.int x :: st) h) := tm_r_iload (j := 4) (by decide +kernel) rfl
theorem ws_Y_carries_18 : tm_s M_Y_carries d u0 Q u S n 18 L st h = tm_gI L 3 (fun x => tm_w M_Y_carries d u0 Q u S n 19 L (.int x :: st) h) := tm_r_iload_n (i := 3) (by decide +kernel) rfl rfl
theorem dd_Y_carries_19 : decode (tm_cc M_Y_carries) 19 = .ok (.invokestatic 35, 3) := by decide +kernel
theorem ws_Y_carries_19 : tm_s M_Y_carries d u0 Q u S n 19 L st h = tm_T M_Y_carries d u0 Q u 19 L st h := tm_r_invs dd_Y_carries_19
theorem ws_Y_carries_22 : tm_s M_Y_carries d u0 Q u S n 22 L st h = tm_p1 st (fun x r => (x = 0 → tm_w M_Y_carries d u0 Q u S n 27 L r h) ∧ (¬ x = 0 → tm_w M_Y_carries d u0 Q u S n 25 L r h)) := tm_r_ifeq (off := 5) (by decide +kernel) rfl rfl
theorem ws_Y_carries_25 : tm_s M_Y_carries d u0 Q u S n 25 L st h = tm_w M_Y_carries d u0 Q u S n 26 L (.int 0 :: st) h := tm_r_iconst (k := 0) (by decide +kernel) rfl (by decide)
theorem ws_Y_carries_26 : tm_s M_Y_carries d u0 Q u S n 26 L st h = tm_p1 st (fun x r => r = [] ∧ (x = 0 ∨ x = 1) ∧ Q (.inl (some (.int x))) h) := tm_r_zret (by decide +kernel) rfl
theorem ws_Y_carries_27 : tm_s M_Y_carries d u0 Q u S n 27 L st h = tm_w M_Y_carries d u0 Q u S n 28 L (.int 0 :: st) h := tm_r_iconst (k := 0) (by decide +kernel) rfl (by decide)
theorem ws_Y_carries_28 : tm_s M_Y_carries d u0 Q u S n 28 L st h = tm_p1 st (fun x r => tm_w M_Y_carries d u0 Q u S n 30 (L.set 5 (some (.int x))) r h) := tm_r_istore (j := 5) (by decide +kernel) rfl (by decide)
theorem ws_Y_carries_30 : tm_s M_Y_carries d u0 Q u S n 30 L st h = tm_gI L 5 (fun x => tm_w M_Y_carries d u0 Q u S n 32 L (.int x :: st) h) := tm_r_iload (j := 5) (by decide +kernel) rfl
theorem ws_Y_carries_32 : tm_s M_Y_carries d u0 Q u S n 32 L st h = tm_gA L 1 (fun x => tm_w M_Y_carries d u0 Q u S n 33 L (.ref x :: st) h) := tm_r_aload_n (i := 1) (by decide +kernel) rfl rfl
theorem ws_Y_carries_33 : tm_s M_Y_carries d u0 Q u S n 33 L st h = tm_pA st (fun a r => tm_cO (h a) 1 (fun fs => tm_fv fs 0 (fun v => tm_w M_Y_carries d u0 Q u S n 36 L (v :: r) h))) := tm_r_getf (i := 15) (by decide +kernel) rfl (by decide +kernel)
theorem ws_Y_carries_36 : tm_s M_Y_carries d u0 Q u S n 36 L st h = tm_p1 st (fun y r => tm_p1 r (fun x r => (y ≤ x → tm_w M_Y_carries d u0 Q u S n 54 L r h) ∧ (¬ y ≤ x → tm_w M_Y_carries d u0 Q u S n 39 L r h))) := tm_r_icge (off := 18) (by decide +kernel) rfl rfl
theorem ws_Y_carries_39 : tm_s M_Y_carries d u0 Q u S n 39 L st h = tm_gA L 0 (fun x => tm_w M_Y_carries d u0 Q u S n 40 L (.ref x :: st) h) := tm_r_aload_n (i := 0) (by decide +kernel) rfl rfl
theorem ws_Y_carries_40 : tm_s M_Y_carries d u0 Q u S n 40 L st h = tm_pA st (fun a r => tm_cO (h a) 3 (fun fs => tm_fv fs 0 (fun v => tm_w M_Y_carries d u0 Q u S n 43 L (v :: r) h))) := tm_r_getf (i := 9) (by decide +kernel) rfl (by decide +kernel)
theorem ws_Y_carries_43 : tm_s M_Y_carries d u0 Q u S n 43 L st h = tm_gI L 5 (fun x => tm_w M_Y_carries d u0 Q u S n 45 L (.int x :: st) h) := tm_r_iload (j := 5) (by decide +kernel) rfl
theorem ws_Y_carries_45 : tm_s M_Y_carries d u0 Q u S n 45 L st h = tm_gI L 5 (fun x => tm_w M_Y_carries d u0 Q u S n 47 L (.int x :: st) h) := tm_r_iload (j := 5) (by decide +kernel) rfl
theorem ws_Y_carries_47 : tm_s M_Y_carries d u0 Q u S n 47 L st h = tm_p1 st (fun x r => tm_p1 r (fun i r => tm_pA r (fun a r => tm_cI (h a) (fun k f => a < tm_K ∧ vp_in i k ∧ tm_w M_Y_carries d u0 Q u S n 48 L r (tm_up h a (tm_i k (upd f i.toNatClampNeg x))))))) := tm_r_iastore (by decide +kernel) rfl
theorem ws_Y_carries_48 : tm_s M_Y_carries d u0 Q u S n 48 L st h = tm_gI L 5 (fun x => tm_w M_Y_carries d u0 Q u S n 51 (L.set 5 (some (.int (x + 1)))) st h) := tm_r_iinc (j := 5) (k := 1) (by decide +kernel) rfl (by decide) (by decide)
theorem ws_Y_carries_51 : tm_s M_Y_carries d u0 Q u S n 51 L st h = tm_w M_Y_carries d u0 Q u S n 30 L st h := tm_r_goto (off := (-21)) (by decide +kernel) rfl
theorem ws_Y_carries_54 : tm_s M_Y_carries d u0 Q u S n 54 L st h = tm_gA L 0 (fun x => tm_w M_Y_carries d u0 Q u S n 55 L (.ref x :: st) h) := tm_r_aload_n (i := 0) (by decide +kernel) rfl rfl
theorem ws_Y_carries_55 : tm_s M_Y_carries d u0 Q u S n 55 L st h = tm_gA L 1 (fun x => tm_w M_Y_carries d u0 Q u S n 56 L (.ref x :: st) h) := tm_r_aload_n (i := 1) (by decide +kernel) rfl rfl
theorem ws_Y_carries_56 : tm_s M_Y_carries d u0 Q u S n 56 L st h = tm_gI L 2 (fun x => tm_w M_Y_carries d u0 Q u S n 57 L (.int x :: st) h) := tm_r_iload_n (i := 2) (by decide +kernel) rfl rfl
theorem ws_Y_carries_57 : tm_s M_Y_carries d u0 Q u S n 57 L st h = tm_gI L 3 (fun x => tm_w M_Y_carries d u0 Q u S n 58 L (.int x :: st) h) := tm_r_iload_n (i := 3) (by decide +kernel) rfl rfl
theorem ws_Y_carries_58 : tm_s M_Y_carries d u0 Q u S n 58 L st h = tm_gI L 4 (fun x => tm_w M_Y_carries d u0 Q u S n 60 L (.int x :: st) h) := tm_r_iload (j := 4) (by decide +kernel) rfl
theorem dd_Y_carries_60 : decode (tm_cc M_Y_carries) 60 = .ok (.invokevirtual 39, 3) := by decide +kernel
theorem ws_Y_carries_60 : tm_s M_Y_carries d u0 Q u S n 60 L st h = tm_T M_Y_carries d u0 Q u 60 L st h := tm_r_invv dd_Y_carries_60
theorem ws_Y_carries_63 : tm_s M_Y_carries d u0 Q u S n 63 L st h = tm_p1 st (fun x r => (¬ x = 0 → tm_w M_Y_carries d u0 Q u S n 68 L r h) ∧ (¬ ¬ x = 0 → tm_w M_Y_carries d u0 Q u S n 66 L r h)) := tm_r_ifne (off := 5) (by decide +kernel) rfl rfl
theorem ws_Y_carries_66 : tm_s M_Y_carries d u0 Q u S n 66 L st h = tm_w M_Y_carries d u0 Q u S n 67 L (.int 0 :: st) h := tm_r_iconst (k := 0) (by decide +kernel) rfl (by decide)
theorem ws_Y_carries_67 : tm_s M_Y_carries d u0 Q u S n 67 L st h = tm_p1 st (fun x r => r = [] ∧ (x = 0 ∨ x = 1) ∧ Q (.inl (some (.int x))) h) := tm_r_zret (by decide +kernel) rfl
theorem ws_Y_carries_68 : tm_s M_Y_carries d u0 Q u S n 68 L st h = tm_gA L 0 (fun x => tm_w M_Y_carries d u0 Q u S n 69 L (.ref x :: st) h) := tm_r_aload_n (i := 0) (by decide +kernel) rfl rfl
theorem ws_Y_carries_69 : tm_s M_Y_carries d u0 Q u S n 69 L st h = tm_pA st (fun a r => tm_cO (h a) 3 (fun fs => tm_fv fs 0 (fun v => tm_w M_Y_carries d u0 Q u S n 72 L (v :: r) h))) := tm_r_getf (i := 9) (by decide +kernel) rfl (by decide +kernel)
theorem ws_Y_carries_72 : tm_s M_Y_carries d u0 Q u S n 72 L st h = tm_gI L 2 (fun x => tm_w M_Y_carries d u0 Q u S n 73 L (.int x :: st) h) := tm_r_iload_n (i := 2) (by decide +kernel) rfl rfl
theorem ws_Y_carries_73 : tm_s M_Y_carries d u0 Q u S n 73 L st h = tm_gI L 3 (fun x => tm_w M_Y_carries d u0 Q u S n 74 L (.int x :: st) h) := tm_r_iload_n (i := 3) (by decide +kernel) rfl rfl
theorem ws_Y_carries_74 : tm_s M_Y_carries d u0 Q u S n 74 L st h = tm_p1 st (fun x r => tm_p1 r (fun i r => tm_pA r (fun a r => tm_cI (h a) (fun k f => a < tm_K ∧ vp_in i k ∧ tm_w M_Y_carries d u0 Q u S n 75 L r (tm_up h a (tm_i k (upd f i.toNatClampNeg x))))))) := tm_r_iastore (by decide +kernel) rfl
theorem ws_Y_carries_75 : tm_s M_Y_carries d u0 Q u S n 75 L st h = tm_gA L 0 (fun x => tm_w M_Y_carries d u0 Q u S n 76 L (.ref x :: st) h) := tm_r_aload_n (i := 0) (by decide +kernel) rfl rfl
theorem ws_Y_carries_76 : tm_s M_Y_carries d u0 Q u S n 76 L st h = tm_gA L 1 (fun x => tm_w M_Y_carries d u0 Q u S n 77 L (.ref x :: st) h) := tm_r_aload_n (i := 1) (by decide +kernel) rfl rfl
theorem ws_Y_carries_77 : tm_s M_Y_carries d u0 Q u S n 77 L st h = tm_w M_Y_carries d u0 Q u S n 78 L (.int 0 :: st) h := tm_r_iconst (k := 0) (by decide +kernel) rfl (by decide)
theorem ws_Y_carries_78 : tm_s M_Y_carries d u0 Q u S n 78 L st h = tm_gI L 4 (fun x => tm_w M_Y_carries d u0 Q u S n 80 L (.int x :: st) h) := tm_r_iload (j := 4) (by decide +kernel) rfl
theorem ws_Y_carries_80 : tm_s M_Y_carries d u0 Q u S n 80 L st h = tm_w M_Y_carries d u0 Q u S n 81 L (.int 1 :: st) h := tm_r_iconst (k := 1) (by decide +kernel) rfl (by decide)
theorem ws_Y_carries_81 : tm_s M_Y_carries d u0 Q u S n 81 L st h = tm_gI L 2 (fun x => tm_w M_Y_carries d u0 Q u S n 82 L (.int x :: st) h) := tm_r_iload_n (i := 2) (by decide +kernel) rfl rfl
theorem ws_Y_carries_82 : tm_s M_Y_carries d u0 Q u S n 82 L st h = tm_p1 st (fun y r => tm_p1 r (fun x r => tm_w M_Y_carries d u0 Q u S n 83 L (.int (x <<< (y &&& 31)) :: r) h)) := tm_r_ishl (by decide +kernel) rfl
theorem ws_Y_carries_83 : tm_s M_Y_carries d u0 Q u S n 83 L st h = tm_p1 st (fun y r => tm_p1 r (fun x r => tm_w M_Y_carries d u0 Q u S n 84 L (.int (x ||| y) :: r) h)) := tm_r_ior (by decide +kernel) rfl
theorem ws_Y_carries_84 : tm_s M_Y_carries d u0 Q u S n 84 L st h = tm_gI L 4 (fun x => tm_w M_Y_carries d u0 Q u S n 86 L (.int x :: st) h) := tm_r_iload (j := 4) (by decide +kernel) rfl
theorem ws_Y_carries_86 : tm_s M_Y_carries d u0 Q u S n 86 L st h = tm_w M_Y_carries d u0 Q u S n 87 L (.int 1 :: st) h := tm_r_iconst (k := 1) (by decide +kernel) rfl (by decide)
theorem ws_Y_carries_87 : tm_s M_Y_carries d u0 Q u S n 87 L st h = tm_gI L 3 (fun x => tm_w M_Y_carries d u0 Q u S n 88 L (.int x :: st) h) := tm_r_iload_n (i := 3) (by decide +kernel) rfl rfl
theorem ws_Y_carries_88 : tm_s M_Y_carries d u0 Q u S n 88 L st h = tm_p1 st (fun y r => tm_p1 r (fun x r => tm_w M_Y_carries d u0 Q u S n 89 L (.int (x <<< (y &&& 31)) :: r) h)) := tm_r_ishl (by decide +kernel) rfl
theorem ws_Y_carries_89 : tm_s M_Y_carries d u0 Q u S n 89 L st h = tm_p1 st (fun y r => tm_p1 r (fun x r => tm_w M_Y_carries d u0 Q u S n 90 L (.int (x ||| y) :: r) h)) := tm_r_ior (by decide +kernel) rfl
theorem dd_Y_carries_90 : decode (tm_cc M_Y_carries) 90 = .ok (.invokevirtual 42, 3) := by decide +kernel
theorem ws_Y_carries_90 : tm_s M_Y_carries d u0 Q u S n 90 L st h = tm_T M_Y_carries d u0 Q u 90 L st h := tm_r_invv dd_Y_carries_90
theorem ws_Y_carries_93 : tm_s M_Y_carries d u0 Q u S n 93 L st h = tm_p1 st (fun x r => r = [] ∧ (x = 0 ∨ x = 1) ∧ Q (.inl (some (.int x))) h) := tm_r_zret (by decide +kernel) rfl
theorem ws_Y_canGoOn_0 : tm_s M_Y_canGoOn d u0 Q u S n 0 L st h = tm_gI L 2 (fun x => tm_w M_Y_canGoOn d u0 Q u S n 1 L (.int x :: st) h) := tm_r_iload_n (i := 2) (by decide +kernel) rfl rfl
theorem ws_Y_canGoOn_1 : tm_s M_Y_canGoOn d u0 Q u S n 1 L st h = tm_gA L 1 (fun x => tm_w M_Y_canGoOn d u0 Q u S n 2 L (.ref x :: st) h) := tm_r_aload_n (i := 1) (by decide +kernel) rfl rfl
theorem ws_Y_canGoOn_2 : tm_s M_Y_canGoOn d u0 Q u S n 2 L st h = tm_pA st (fun a r => tm_cO (h a) 1 (fun fs => tm_fv fs 0 (fun v => tm_w M_Y_canGoOn d u0 Q u S n 5 L (v :: r) h))) := tm_r_getf (i := 15) (by decide +kernel) rfl (by decide +kernel)
theorem ws_Y_canGoOn_5 : tm_s M_Y_canGoOn d u0 Q u S n 5 L st h = tm_p1 st (fun y r => tm_p1 r (fun x r => (x < y → tm_w M_Y_canGoOn d u0 Q u S n 10 L r h) ∧ (¬ x < y → tm_w M_Y_canGoOn d u0 Q u S n 8 L r h))) := tm_r_iclt (off := 5) (by decide +kernel) rfl rfl
theorem ws_Y_canGoOn_8 : tm_s M_Y_canGoOn d u0 Q u S n 8 L st h = tm_w M_Y_canGoOn d u0 Q u S n 9 L (.int 1 :: st) h := tm_r_iconst (k := 1) (by decide +kernel) rfl (by decide)
theorem ws_Y_canGoOn_9 : tm_s M_Y_canGoOn d u0 Q u S n 9 L st h = tm_p1 st (fun x r => r = [] ∧ (x = 0 ∨ x = 1) ∧ Q (.inl (some (.int x))) h) := tm_r_zret (by decide +kernel) rfl
theorem ws_Y_canGoOn_10 : tm_s M_Y_canGoOn d u0 Q u S n 10 L st h = tm_gI L 3 (fun x => tm_w M_Y_canGoOn d u0 Q u S n 11 L (.int x :: st) h) := tm_r_iload_n (i := 3) (by decide +kernel) rfl rfl
theorem ws_Y_canGoOn_11 : tm_s M_Y_canGoOn d u0 Q u S n 11 L st h = tm_gI L 2 (fun x => tm_w M_Y_canGoOn d u0 Q u S n 12 L (.int x :: st) h) := tm_r_iload_n (i := 2) (by decide +kernel) rfl rfl
theorem dd_Y_canGoOn_12 : decode (tm_cc M_Y_canGoOn) 12 = .ok (.invokestatic 35, 3) := by decide +kernel
theorem ws_Y_canGoOn_12 : tm_s M_Y_canGoOn d u0 Q u S n 12 L st h = tm_T M_Y_canGoOn d u0 Q u 12 L st h := tm_r_invs dd_Y_canGoOn_12
theorem ws_Y_canGoOn_15 : tm_s M_Y_canGoOn d u0 Q u S n 15 L st h = tm_p1 st (fun x r => (x = 0 → tm_w M_Y_canGoOn d u0 Q u S n 30 L r h) ∧ (¬ x = 0 → tm_w M_Y_canGoOn d u0 Q u S n 18 L r h)) := tm_r_ifeq (off := 15) (by decide +kernel) rfl rfl
theorem ws_Y_canGoOn_18 : tm_s M_Y_canGoOn d u0 Q u S n 18 L st h = tm_gA L 0 (fun x => tm_w M_Y_canGoOn d u0 Q u S n 19 L (.ref x :: st) h) := tm_r_aload_n (i := 0) (by decide +kernel) rfl rfl
theorem ws_Y_canGoOn_19 : tm_s M_Y_canGoOn d u0 Q u S n 19 L st h = tm_gA L 1 (fun x => tm_w M_Y_canGoOn d u0 Q u S n 20 L (.ref x :: st) h) := tm_r_aload_n (i := 1) (by decide +kernel) rfl rfl
theorem ws_Y_canGoOn_20 : tm_s M_Y_canGoOn d u0 Q u S n 20 L st h = tm_gI L 2 (fun x => tm_w M_Y_canGoOn d u0 Q u S n 21 L (.int x :: st) h) := tm_r_iload_n (i := 2) (by decide +kernel) rfl rfl
theorem ws_Y_canGoOn_21 : tm_s M_Y_canGoOn d u0 Q u S n 21 L st h = tm_w M_Y_canGoOn d u0 Q u S n 22 L (.int 1 :: st) h := tm_r_iconst (k := 1) (by decide +kernel) rfl (by decide)
theorem ws_Y_canGoOn_22 : tm_s M_Y_canGoOn d u0 Q u S n 22 L st h = tm_p1 st (fun y r => tm_p1 r (fun x r => tm_w M_Y_canGoOn d u0 Q u S n 23 L (.int (x + y) :: r) h)) := tm_r_iadd (by decide +kernel) rfl
theorem ws_Y_canGoOn_23 : tm_s M_Y_canGoOn d u0 Q u S n 23 L st h = tm_gI L 3 (fun x => tm_w M_Y_canGoOn d u0 Q u S n 24 L (.int x :: st) h) := tm_r_iload_n (i := 3) (by decide +kernel) rfl rfl
theorem ws_Y_canGoOn_24 : tm_s M_Y_canGoOn d u0 Q u S n 24 L st h = tm_gI L 4 (fun x => tm_w M_Y_canGoOn d u0 Q u S n 26 L (.int x :: st) h) := tm_r_iload (j := 4) (by decide +kernel) rfl
theorem dd_Y_canGoOn_26 : decode (tm_cc M_Y_canGoOn) 26 = .ok (.invokevirtual 42, 3) := by decide +kernel
theorem ws_Y_canGoOn_26 : tm_s M_Y_canGoOn d u0 Q u S n 26 L st h = tm_T M_Y_canGoOn d u0 Q u 26 L st h := tm_r_invv dd_Y_canGoOn_26
theorem ws_Y_canGoOn_29 : tm_s M_Y_canGoOn d u0 Q u S n 29 L st h = tm_p1 st (fun x r => r = [] ∧ (x = 0 ∨ x = 1) ∧ Q (.inl (some (.int x))) h) := tm_r_zret (by decide +kernel) rfl
theorem ws_Y_canGoOn_30 : tm_s M_Y_canGoOn d u0 Q u S n 30 L st h = tm_w M_Y_canGoOn d u0 Q u S n 31 L (.int 0 :: st) h := tm_r_iconst (k := 0) (by decide +kernel) rfl (by decide)
theorem ws_Y_canGoOn_31 : tm_s M_Y_canGoOn d u0 Q u S n 31 L st h = tm_p1 st (fun x r => tm_w M_Y_canGoOn d u0 Q u S n 33 (L.set 5 (some (.int x))) r h) := tm_r_istore (j := 5) (by decide +kernel) rfl (by decide)
theorem ws_Y_canGoOn_33 : tm_s M_Y_canGoOn d u0 Q u S n 33 L st h = tm_gI L 5 (fun x => tm_w M_Y_canGoOn d u0 Q u S n 35 L (.int x :: st) h) := tm_r_iload (j := 5) (by decide +kernel) rfl
theorem ws_Y_canGoOn_35 : tm_s M_Y_canGoOn d u0 Q u S n 35 L st h = tm_gA L 1 (fun x => tm_w M_Y_canGoOn d u0 Q u S n 36 L (.ref x :: st) h) := tm_r_aload_n (i := 1) (by decide +kernel) rfl rfl
theorem ws_Y_canGoOn_36 : tm_s M_Y_canGoOn d u0 Q u S n 36 L st h = tm_pA st (fun a r => tm_cO (h a) 1 (fun fs => tm_fv fs 0 (fun v => tm_w M_Y_canGoOn d u0 Q u S n 39 L (v :: r) h))) := tm_r_getf (i := 15) (by decide +kernel) rfl (by decide +kernel)
theorem ws_Y_canGoOn_39 : tm_s M_Y_canGoOn d u0 Q u S n 39 L st h = tm_p1 st (fun y r => tm_p1 r (fun x r => (y ≤ x → tm_w M_Y_canGoOn d u0 Q u S n 103 L r h) ∧ (¬ y ≤ x → tm_w M_Y_canGoOn d u0 Q u S n 42 L r h))) := tm_r_icge (off := 64) (by decide +kernel) rfl rfl
theorem ws_Y_canGoOn_42 : tm_s M_Y_canGoOn d u0 Q u S n 42 L st h = tm_gI L 4 (fun x => tm_w M_Y_canGoOn d u0 Q u S n 44 L (.int x :: st) h) := tm_r_iload (j := 4) (by decide +kernel) rfl
theorem ws_Y_canGoOn_44 : tm_s M_Y_canGoOn d u0 Q u S n 44 L st h = tm_gI L 5 (fun x => tm_w M_Y_canGoOn d u0 Q u S n 46 L (.int x :: st) h) := tm_r_iload (j := 5) (by decide +kernel) rfl
theorem dd_Y_canGoOn_46 : decode (tm_cc M_Y_canGoOn) 46 = .ok (.invokestatic 35, 3) := by decide +kernel
theorem ws_Y_canGoOn_46 : tm_s M_Y_canGoOn d u0 Q u S n 46 L st h = tm_T M_Y_canGoOn d u0 Q u 46 L st h := tm_r_invs dd_Y_canGoOn_46
theorem ws_Y_canGoOn_49 : tm_s M_Y_canGoOn d u0 Q u S n 49 L st h = tm_p1 st (fun x r => (¬ x = 0 → tm_w M_Y_canGoOn d u0 Q u S n 97 L r h) ∧ (¬ ¬ x = 0 → tm_w M_Y_canGoOn d u0 Q u S n 52 L r h)) := tm_r_ifne (off := 48) (by decide +kernel) rfl rfl
theorem ws_Y_canGoOn_52 : tm_s M_Y_canGoOn d u0 Q u S n 52 L st h = tm_gA L 0 (fun x => tm_w M_Y_canGoOn d u0 Q u S n 53 L (.ref x :: st) h) := tm_r_aload_n (i := 0) (by decide +kernel) rfl rfl
theorem ws_Y_canGoOn_53 : tm_s M_Y_canGoOn d u0 Q u S n 53 L st h = tm_gA L 1 (fun x => tm_w M_Y_canGoOn d u0 Q u S n 54 L (.ref x :: st) h) := tm_r_aload_n (i := 1) (by decide +kernel) rfl rfl
theorem ws_Y_canGoOn_54 : tm_s M_Y_canGoOn d u0 Q u S n 54 L st h = tm_gI L 2 (fun x => tm_w M_Y_canGoOn d u0 Q u S n 55 L (.int x :: st) h) := tm_r_iload_n (i := 2) (by decide +kernel) rfl rfl
theorem ws_Y_canGoOn_55 : tm_s M_Y_canGoOn d u0 Q u S n 55 L st h = tm_gI L 5 (fun x => tm_w M_Y_canGoOn d u0 Q u S n 57 L (.int x :: st) h) := tm_r_iload (j := 5) (by decide +kernel) rfl
theorem ws_Y_canGoOn_57 : tm_s M_Y_canGoOn d u0 Q u S n 57 L st h = tm_gI L 3 (fun x => tm_w M_Y_canGoOn d u0 Q u S n 58 L (.int x :: st) h) := tm_r_iload_n (i := 3) (by decide +kernel) rfl rfl
theorem dd_Y_canGoOn_58 : decode (tm_cc M_Y_canGoOn) 58 = .ok (.invokevirtual 39, 3) := by decide +kernel
theorem ws_Y_canGoOn_58 : tm_s M_Y_canGoOn d u0 Q u S n 58 L st h = tm_T M_Y_canGoOn d u0 Q u 58 L st h := tm_r_invv dd_Y_canGoOn_58
theorem ws_Y_canGoOn_61 : tm_s M_Y_canGoOn d u0 Q u S n 61 L st h = tm_p1 st (fun x r => (x = 0 → tm_w M_Y_canGoOn d u0 Q u S n 97 L r h) ∧ (¬ x = 0 → tm_w M_Y_canGoOn d u0 Q u S n 64 L r h)) := tm_r_ifeq (off := 36) (by decide +kernel) rfl rfl
theorem ws_Y_canGoOn_64 : tm_s M_Y_canGoOn d u0 Q u S n 64 L st h = tm_gA L 0 (fun x => tm_w M_Y_canGoOn d u0 Q u S n 65 L (.ref x :: st) h) := tm_r_aload_n (i := 0) (by decide +kernel) rfl rfl
theorem ws_Y_canGoOn_65 : tm_s M_Y_canGoOn d u0 Q u S n 65 L st h = tm_pA st (fun a r => tm_cO (h a) 3 (fun fs => tm_fv fs 0 (fun v => tm_w M_Y_canGoOn d u0 Q u S n 68 L (v :: r) h))) := tm_r_getf (i := 9) (by decide +kernel) rfl (by decide +kernel)
theorem ws_Y_canGoOn_68 : tm_s M_Y_canGoOn d u0 Q u S n 68 L st h = tm_gI L 2 (fun x => tm_w M_Y_canGoOn d u0 Q u S n 69 L (.int x :: st) h) := tm_r_iload_n (i := 2) (by decide +kernel) rfl rfl
theorem ws_Y_canGoOn_69 : tm_s M_Y_canGoOn d u0 Q u S n 69 L st h = tm_gI L 5 (fun x => tm_w M_Y_canGoOn d u0 Q u S n 71 L (.int x :: st) h) := tm_r_iload (j := 5) (by decide +kernel) rfl
theorem ws_Y_canGoOn_71 : tm_s M_Y_canGoOn d u0 Q u S n 71 L st h = tm_p1 st (fun x r => tm_p1 r (fun i r => tm_pA r (fun a r => tm_cI (h a) (fun k f => a < tm_K ∧ vp_in i k ∧ tm_w M_Y_canGoOn d u0 Q u S n 72 L r (tm_up h a (tm_i k (upd f i.toNatClampNeg x))))))) := tm_r_iastore (by decide +kernel) rfl
theorem ws_Y_canGoOn_72 : tm_s M_Y_canGoOn d u0 Q u S n 72 L st h = tm_gA L 0 (fun x => tm_w M_Y_canGoOn d u0 Q u S n 73 L (.ref x :: st) h) := tm_r_aload_n (i := 0) (by decide +kernel) rfl rfl
theorem ws_Y_canGoOn_73 : tm_s M_Y_canGoOn d u0 Q u S n 73 L st h = tm_gA L 1 (fun x => tm_w M_Y_canGoOn d u0 Q u S n 74 L (.ref x :: st) h) := tm_r_aload_n (i := 1) (by decide +kernel) rfl rfl
theorem ws_Y_canGoOn_74 : tm_s M_Y_canGoOn d u0 Q u S n 74 L st h = tm_gI L 2 (fun x => tm_w M_Y_canGoOn d u0 Q u S n 75 L (.int x :: st) h) := tm_r_iload_n (i := 2) (by decide +kernel) rfl rfl
theorem ws_Y_canGoOn_75 : tm_s M_Y_canGoOn d u0 Q u S n 75 L st h = tm_w M_Y_canGoOn d u0 Q u S n 76 L (.int 1 :: st) h := tm_r_iconst (k := 1) (by decide +kernel) rfl (by decide)
theorem ws_Y_canGoOn_76 : tm_s M_Y_canGoOn d u0 Q u S n 76 L st h = tm_p1 st (fun y r => tm_p1 r (fun x r => tm_w M_Y_canGoOn d u0 Q u S n 77 L (.int (x + y) :: r) h)) := tm_r_iadd (by decide +kernel) rfl
theorem ws_Y_canGoOn_77 : tm_s M_Y_canGoOn d u0 Q u S n 77 L st h = tm_gI L 3 (fun x => tm_w M_Y_canGoOn d u0 Q u S n 78 L (.int x :: st) h) := tm_r_iload_n (i := 3) (by decide +kernel) rfl rfl
theorem ws_Y_canGoOn_78 : tm_s M_Y_canGoOn d u0 Q u S n 78 L st h = tm_w M_Y_canGoOn d u0 Q u S n 79 L (.int 1 :: st) h := tm_r_iconst (k := 1) (by decide +kernel) rfl (by decide)
theorem ws_Y_canGoOn_79 : tm_s M_Y_canGoOn d u0 Q u S n 79 L st h = tm_gI L 2 (fun x => tm_w M_Y_canGoOn d u0 Q u S n 80 L (.int x :: st) h) := tm_r_iload_n (i := 2) (by decide +kernel) rfl rfl
theorem ws_Y_canGoOn_80 : tm_s M_Y_canGoOn d u0 Q u S n 80 L st h = tm_p1 st (fun y r => tm_p1 r (fun x r => tm_w M_Y_canGoOn d u0 Q u S n 81 L (.int (x <<< (y &&& 31)) :: r) h)) := tm_r_ishl (by decide +kernel) rfl
theorem ws_Y_canGoOn_81 : tm_s M_Y_canGoOn d u0 Q u S n 81 L st h = tm_p1 st (fun y r => tm_p1 r (fun x r => tm_w M_Y_canGoOn d u0 Q u S n 82 L (.int (x ||| y) :: r) h)) := tm_r_ior (by decide +kernel) rfl
theorem ws_Y_canGoOn_82 : tm_s M_Y_canGoOn d u0 Q u S n 82 L st h = tm_gI L 4 (fun x => tm_w M_Y_canGoOn d u0 Q u S n 84 L (.int x :: st) h) := tm_r_iload (j := 4) (by decide +kernel) rfl
theorem ws_Y_canGoOn_84 : tm_s M_Y_canGoOn d u0 Q u S n 84 L st h = tm_w M_Y_canGoOn d u0 Q u S n 85 L (.int 1 :: st) h := tm_r_iconst (k := 1) (by decide +kernel) rfl (by decide)
theorem ws_Y_canGoOn_85 : tm_s M_Y_canGoOn d u0 Q u S n 85 L st h = tm_gI L 5 (fun x => tm_w M_Y_canGoOn d u0 Q u S n 87 L (.int x :: st) h) := tm_r_iload (j := 5) (by decide +kernel) rfl
theorem ws_Y_canGoOn_87 : tm_s M_Y_canGoOn d u0 Q u S n 87 L st h = tm_p1 st (fun y r => tm_p1 r (fun x r => tm_w M_Y_canGoOn d u0 Q u S n 88 L (.int (x <<< (y &&& 31)) :: r) h)) := tm_r_ishl (by decide +kernel) rfl
theorem ws_Y_canGoOn_88 : tm_s M_Y_canGoOn d u0 Q u S n 88 L st h = tm_p1 st (fun y r => tm_p1 r (fun x r => tm_w M_Y_canGoOn d u0 Q u S n 89 L (.int (x ||| y) :: r) h)) := tm_r_ior (by decide +kernel) rfl
theorem dd_Y_canGoOn_89 : decode (tm_cc M_Y_canGoOn) 89 = .ok (.invokevirtual 42, 3) := by decide +kernel
theorem ws_Y_canGoOn_89 : tm_s M_Y_canGoOn d u0 Q u S n 89 L st h = tm_T M_Y_canGoOn d u0 Q u 89 L st h := tm_r_invv dd_Y_canGoOn_89
theorem ws_Y_canGoOn_92 : tm_s M_Y_canGoOn d u0 Q u S n 92 L st h = tm_p1 st (fun x r => (x = 0 → tm_w M_Y_canGoOn d u0 Q u S n 97 L r h) ∧ (¬ x = 0 → tm_w M_Y_canGoOn d u0 Q u S n 95 L r h)) := tm_r_ifeq (off := 5) (by decide +kernel) rfl rfl
theorem ws_Y_canGoOn_95 : tm_s M_Y_canGoOn d u0 Q u S n 95 L st h = tm_w M_Y_canGoOn d u0 Q u S n 96 L (.int 1 :: st) h := tm_r_iconst (k := 1) (by decide +kernel) rfl (by decide)
theorem ws_Y_canGoOn_96 : tm_s M_Y_canGoOn d u0 Q u S n 96 L st h = tm_p1 st (fun x r => r = [] ∧ (x = 0 ∨ x = 1) ∧ Q (.inl (some (.int x))) h) := tm_r_zret (by decide +kernel) rfl
theorem ws_Y_canGoOn_97 : tm_s M_Y_canGoOn d u0 Q u S n 97 L st h = tm_gI L 5 (fun x => tm_w M_Y_canGoOn d u0 Q u S n 100 (L.set 5 (some (.int (x + 1)))) st h) := tm_r_iinc (j := 5) (k := 1) (by decide +kernel) rfl (by decide) (by decide)
theorem ws_Y_canGoOn_100 : tm_s M_Y_canGoOn d u0 Q u S n 100 L st h = tm_w M_Y_canGoOn d u0 Q u S n 33 L st h := tm_r_goto (off := (-67)) (by decide +kernel) rfl
theorem ws_Y_canGoOn_103 : tm_s M_Y_canGoOn d u0 Q u S n 103 L st h = tm_w M_Y_canGoOn d u0 Q u S n 104 L (.int 0 :: st) h := tm_r_iconst (k := 0) (by decide +kernel) rfl (by decide)
theorem ws_Y_canGoOn_104 : tm_s M_Y_canGoOn d u0 Q u S n 104 L st h = tm_p1 st (fun x r => r = [] ∧ (x = 0 ∨ x = 1) ∧ Q (.inl (some (.int x))) h) := tm_r_zret (by decide +kernel) rfl
theorem ws_Y_fits_0 : tm_s M_Y_fits d u0 Q u S n 0 L st h = tm_gA L 1 (fun x => tm_w M_Y_fits d u0 Q u S n 1 L (.ref x :: st) h) := tm_r_aload_n (i := 1) (by decide +kernel) rfl rfl
theorem ws_Y_fits_1 : tm_s M_Y_fits d u0 Q u S n 1 L st h = tm_pA st (fun a r => tm_cO (h a) 1 (fun fs => tm_fv fs 1 (fun v => tm_w M_Y_fits d u0 Q u S n 4 L (v :: r) h))) := tm_r_getf (i := 45) (by decide +kernel) rfl (by decide +kernel)
theorem ws_Y_fits_4 : tm_s M_Y_fits d u0 Q u S n 4 L st h = tm_gI L 2 (fun x => tm_w M_Y_fits d u0 Q u S n 5 L (.int x :: st) h) := tm_r_iload_n (i := 2) (by decide +kernel) rfl rfl
theorem ws_Y_fits_5 : tm_s M_Y_fits d u0 Q u S n 5 L st h = tm_p1 st (fun i r => tm_pA r (fun a r => tm_cI (h a) (fun k f => vp_in i k ∧ tm_w M_Y_fits d u0 Q u S n 6 L (.int (f i.toNatClampNeg) :: r) h))) := tm_r_iaload (by decide +kernel) rfl
theorem ws_Y_fits_6 : tm_s M_Y_fits d u0 Q u S n 6 L st h = tm_gA L 1 (fun x => tm_w M_Y_fits d u0 Q u S n 7 L (.ref x :: st) h) := tm_r_aload_n (i := 1) (by decide +kernel) rfl rfl
theorem ws_Y_fits_7 : tm_s M_Y_fits d u0 Q u S n 7 L st h = tm_pA st (fun a r => tm_cO (h a) 1 (fun fs => tm_fv fs 1 (fun v => tm_w M_Y_fits d u0 Q u S n 10 L (v :: r) h))) := tm_r_getf (i := 45) (by decide +kernel) rfl (by decide +kernel)
theorem ws_Y_fits_10 : tm_s M_Y_fits d u0 Q u S n 10 L st h = tm_gI L 3 (fun x => tm_w M_Y_fits d u0 Q u S n 11 L (.int x :: st) h) := tm_r_iload_n (i := 3) (by decide +kernel) rfl rfl
theorem ws_Y_fits_11 : tm_s M_Y_fits d u0 Q u S n 11 L st h = tm_p1 st (fun i r => tm_pA r (fun a r => tm_cI (h a) (fun k f => vp_in i k ∧ tm_w M_Y_fits d u0 Q u S n 12 L (.int (f i.toNatClampNeg) :: r) h))) := tm_r_iaload (by decide +kernel) rfl
theorem ws_Y_fits_12 : tm_s M_Y_fits d u0 Q u S n 12 L st h = tm_p1 st (fun y r => tm_p1 r (fun x r => (¬ x = y → tm_w M_Y_fits d u0 Q u S n 28 L r h) ∧ (¬ ¬ x = y → tm_w M_Y_fits d u0 Q u S n 15 L r h))) := tm_r_icne (off := 16) (by decide +kernel) rfl rfl
theorem ws_Y_fits_15 : tm_s M_Y_fits d u0 Q u S n 15 L st h = tm_gA L 1 (fun x => tm_w M_Y_fits d u0 Q u S n 16 L (.ref x :: st) h) := tm_r_aload_n (i := 1) (by decide +kernel) rfl rfl
theorem ws_Y_fits_16 : tm_s M_Y_fits d u0 Q u S n 16 L st h = tm_gI L 2 (fun x => tm_w M_Y_fits d u0 Q u S n 17 L (.int x :: st) h) := tm_r_iload_n (i := 2) (by decide +kernel) rfl rfl
theorem dd_Y_fits_17 : decode (tm_cc M_Y_fits) 17 = .ok (.invokevirtual 48, 3) := by decide +kernel
theorem ws_Y_fits_17 : tm_s M_Y_fits d u0 Q u S n 17 L st h = tm_T M_Y_fits d u0 Q u 17 L st h := tm_r_invv dd_Y_fits_17
theorem ws_Y_fits_20 : tm_s M_Y_fits d u0 Q u S n 20 L st h = tm_gA L 1 (fun x => tm_w M_Y_fits d u0 Q u S n 21 L (.ref x :: st) h) := tm_r_aload_n (i := 1) (by decide +kernel) rfl rfl
theorem ws_Y_fits_21 : tm_s M_Y_fits d u0 Q u S n 21 L st h = tm_gI L 3 (fun x => tm_w M_Y_fits d u0 Q u S n 22 L (.int x :: st) h) := tm_r_iload_n (i := 3) (by decide +kernel) rfl rfl
theorem dd_Y_fits_22 : decode (tm_cc M_Y_fits) 22 = .ok (.invokevirtual 48, 3) := by decide +kernel
theorem ws_Y_fits_22 : tm_s M_Y_fits d u0 Q u S n 22 L st h = tm_T M_Y_fits d u0 Q u 22 L st h := tm_r_invv dd_Y_fits_22
theorem ws_Y_fits_25 : tm_s M_Y_fits d u0 Q u S n 25 L st h = tm_p1 st (fun y r => tm_p1 r (fun x r => (x = y → tm_w M_Y_fits d u0 Q u S n 30 L r h) ∧ (¬ x = y → tm_w M_Y_fits d u0 Q u S n 28 L r h))) := tm_r_iceq (off := 5) (by decide +kernel) rfl rfl
theorem ws_Y_fits_28 : tm_s M_Y_fits d u0 Q u S n 28 L st h = tm_w M_Y_fits d u0 Q u S n 29 L (.int 0 :: st) h := tm_r_iconst (k := 0) (by decide +kernel) rfl (by decide)
theorem ws_Y_fits_29 : tm_s M_Y_fits d u0 Q u S n 29 L st h = tm_p1 st (fun x r => r = [] ∧ (x = 0 ∨ x = 1) ∧ Q (.inl (some (.int x))) h) := tm_r_zret (by decide +kernel) rfl
theorem ws_Y_fits_30 : tm_s M_Y_fits d u0 Q u S n 30 L st h = tm_w M_Y_fits d u0 Q u S n 31 L (.int 0 :: st) h := tm_r_iconst (k := 0) (by decide +kernel) rfl (by decide)
theorem ws_Y_fits_31 : tm_s M_Y_fits d u0 Q u S n 31 L st h = tm_p1 st (fun x r => tm_w M_Y_fits d u0 Q u S n 33 (L.set 5 (some (.int x))) r h) := tm_r_istore (j := 5) (by decide +kernel) rfl (by decide)
theorem ws_Y_fits_33 : tm_s M_Y_fits d u0 Q u S n 33 L st h = tm_gI L 5 (fun x => tm_w M_Y_fits d u0 Q u S n 35 L (.int x :: st) h) := tm_r_iload (j := 5) (by decide +kernel) rfl
theorem ws_Y_fits_35 : tm_s M_Y_fits d u0 Q u S n 35 L st h = tm_gA L 1 (fun x => tm_w M_Y_fits d u0 Q u S n 36 L (.ref x :: st) h) := tm_r_aload_n (i := 1) (by decide +kernel) rfl rfl
theorem ws_Y_fits_36 : tm_s M_Y_fits d u0 Q u S n 36 L st h = tm_pA st (fun a r => tm_cO (h a) 1 (fun fs => tm_fv fs 0 (fun v => tm_w M_Y_fits d u0 Q u S n 39 L (v :: r) h))) := tm_r_getf (i := 15) (by decide +kernel) rfl (by decide +kernel)
theorem ws_Y_fits_39 : tm_s M_Y_fits d u0 Q u S n 39 L st h = tm_p1 st (fun y r => tm_p1 r (fun x r => (y ≤ x → tm_w M_Y_fits d u0 Q u S n 82 L r h) ∧ (¬ y ≤ x → tm_w M_Y_fits d u0 Q u S n 42 L r h))) := tm_r_icge (off := 43) (by decide +kernel) rfl rfl
theorem ws_Y_fits_42 : tm_s M_Y_fits d u0 Q u S n 42 L st h = tm_gI L 4 (fun x => tm_w M_Y_fits d u0 Q u S n 44 L (.int x :: st) h) := tm_r_iload (j := 4) (by decide +kernel) rfl
theorem ws_Y_fits_44 : tm_s M_Y_fits d u0 Q u S n 44 L st h = tm_gI L 5 (fun x => tm_w M_Y_fits d u0 Q u S n 46 L (.int x :: st) h) := tm_r_iload (j := 5) (by decide +kernel) rfl
theorem dd_Y_fits_46 : decode (tm_cc M_Y_fits) 46 = .ok (.invokestatic 35, 3) := by decide +kernel
theorem ws_Y_fits_46 : tm_s M_Y_fits d u0 Q u S n 46 L st h = tm_T M_Y_fits d u0 Q u 46 L st h := tm_r_invs dd_Y_fits_46
theorem ws_Y_fits_49 : tm_s M_Y_fits d u0 Q u S n 49 L st h = tm_p1 st (fun x r => (x = 0 → tm_w M_Y_fits d u0 Q u S n 76 L r h) ∧ (¬ x = 0 → tm_w M_Y_fits d u0 Q u S n 52 L r h)) := tm_r_ifeq (off := 27) (by decide +kernel) rfl rfl
theorem ws_Y_fits_52 : tm_s M_Y_fits d u0 Q u S n 52 L st h = tm_gA L 1 (fun x => tm_w M_Y_fits d u0 Q u S n 53 L (.ref x :: st) h) := tm_r_aload_n (i := 1) (by decide +kernel) rfl rfl
theorem ws_Y_fits_53 : tm_s M_Y_fits d u0 Q u S n 53 L st h = tm_gI L 2 (fun x => tm_w M_Y_fits d u0 Q u S n 54 L (.int x :: st) h) := tm_r_iload_n (i := 2) (by decide +kernel) rfl rfl
theorem ws_Y_fits_54 : tm_s M_Y_fits d u0 Q u S n 54 L st h = tm_gI L 5 (fun x => tm_w M_Y_fits d u0 Q u S n 56 L (.int x :: st) h) := tm_r_iload (j := 5) (by decide +kernel) rfl
theorem dd_Y_fits_56 : decode (tm_cc M_Y_fits) 56 = .ok (.invokevirtual 51, 3) := by decide +kernel
theorem ws_Y_fits_56 : tm_s M_Y_fits d u0 Q u S n 56 L st h = tm_T M_Y_fits d u0 Q u 56 L st h := tm_r_invv dd_Y_fits_56
theorem ws_Y_fits_59 : tm_s M_Y_fits d u0 Q u S n 59 L st h = tm_gA L 1 (fun x => tm_w M_Y_fits d u0 Q u S n 60 L (.ref x :: st) h) := tm_r_aload_n (i := 1) (by decide +kernel) rfl rfl
theorem ws_Y_fits_60 : tm_s M_Y_fits d u0 Q u S n 60 L st h = tm_gI L 3 (fun x => tm_w M_Y_fits d u0 Q u S n 61 L (.int x :: st) h) := tm_r_iload_n (i := 3) (by decide +kernel) rfl rfl
theorem ws_Y_fits_61 : tm_s M_Y_fits d u0 Q u S n 61 L st h = tm_gA L 0 (fun x => tm_w M_Y_fits d u0 Q u S n 62 L (.ref x :: st) h) := tm_r_aload_n (i := 0) (by decide +kernel) rfl rfl
theorem ws_Y_fits_62 : tm_s M_Y_fits d u0 Q u S n 62 L st h = tm_pA st (fun a r => tm_cO (h a) 3 (fun fs => tm_fv fs 0 (fun v => tm_w M_Y_fits d u0 Q u S n 65 L (v :: r) h))) := tm_r_getf (i := 9) (by decide +kernel) rfl (by decide +kernel)
theorem ws_Y_fits_65 : tm_s M_Y_fits d u0 Q u S n 65 L st h = tm_gI L 5 (fun x => tm_w M_Y_fits d u0 Q u S n 67 L (.int x :: st) h) := tm_r_iload (j := 5) (by decide +kernel) rfl
theorem ws_Y_fits_67 : tm_s M_Y_fits d u0 Q u S n 67 L st h = tm_p1 st (fun i r => tm_pA r (fun a r => tm_cI (h a) (fun k f => vp_in i k ∧ tm_w M_Y_fits d u0 Q u S n 68 L (.int (f i.toNatClampNeg) :: r) h))) := tm_r_iaload (by decide +kernel) rfl
theorem dd_Y_fits_68 : decode (tm_cc M_Y_fits) 68 = .ok (.invokevirtual 51, 3) := by decide +kernel
theorem ws_Y_fits_68 : tm_s M_Y_fits d u0 Q u S n 68 L st h = tm_T M_Y_fits d u0 Q u 68 L st h := tm_r_invv dd_Y_fits_68
theorem ws_Y_fits_71 : tm_s M_Y_fits d u0 Q u S n 71 L st h = tm_p1 st (fun y r => tm_p1 r (fun x r => (x = y → tm_w M_Y_fits d u0 Q u S n 76 L r h) ∧ (¬ x = y → tm_w M_Y_fits d u0 Q u S n 74 L r h))) := tm_r_iceq (off := 5) (by decide +kernel) rfl rfl
theorem ws_Y_fits_74 : tm_s M_Y_fits d u0 Q u S n 74 L st h = tm_w M_Y_fits d u0 Q u S n 75 L (.int 0 :: st) h := tm_r_iconst (k := 0) (by decide +kernel) rfl (by decide)
theorem ws_Y_fits_75 : tm_s M_Y_fits d u0 Q u S n 75 L st h = tm_p1 st (fun x r => r = [] ∧ (x = 0 ∨ x = 1) ∧ Q (.inl (some (.int x))) h) := tm_r_zret (by decide +kernel) rfl
theorem ws_Y_fits_76 : tm_s M_Y_fits d u0 Q u S n 76 L st h = tm_gI L 5 (fun x => tm_w M_Y_fits d u0 Q u S n 79 (L.set 5 (some (.int (x + 1)))) st h) := tm_r_iinc (j := 5) (k := 1) (by decide +kernel) rfl (by decide) (by decide)
theorem ws_Y_fits_79 : tm_s M_Y_fits d u0 Q u S n 79 L st h = tm_w M_Y_fits d u0 Q u S n 33 L st h := tm_r_goto (off := (-46)) (by decide +kernel) rfl
theorem ws_Y_fits_82 : tm_s M_Y_fits d u0 Q u S n 82 L st h = tm_w M_Y_fits d u0 Q u S n 83 L (.int 1 :: st) h := tm_r_iconst (k := 1) (by decide +kernel) rfl (by decide)
theorem ws_Y_fits_83 : tm_s M_Y_fits d u0 Q u S n 83 L st h = tm_p1 st (fun x r => r = [] ∧ (x = 0 ∨ x = 1) ∧ Q (.inl (some (.int x))) h) := tm_r_zret (by decide +kernel) rfl
end WSY
