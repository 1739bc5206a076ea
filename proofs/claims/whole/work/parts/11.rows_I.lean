section WSI
variable {d u0 u : Nat} {Q : tm_O → tm_Hp → Prop} {S : List Nat} {n : Nat} {L : List (Option Value)} {st : List Value} {h : tm_Hp}
theorem ws_I_bitCount_0 : tm_s M_I_bitCount d u0 Q u S n 0 L st h = tm_gI L 0 (fun x => tm_w M_I_bitCount d u0 Q u S n 1 L (.int x :: st) h) := tm_r_iload_n (i := 0) (by decide +kernel) rfl rfl
theorem ws_I_bitCount_1 : tm_s M_I_bitCount d u0 Q u S n 1 L st h = tm_gI L 0 (fun x => tm_w M_I_bitCount d u0 Q u S n 2 L (.int x :: st) h) := tm_r_iload_n (i := 0) (by decide +kernel) rfl rfl
theorem ws_I_bitCount_2 : tm_s M_I_bitCount d u0 Q u S n 2 L st h = tm_w M_I_bitCount d u0 Q u S n 3 L (.int 1 :: st) h := tm_r_iconst (k := 1) (by decide +kernel) rfl (by decide)
theorem ws_I_bitCount_3 : tm_s M_I_bitCount d u0 Q u S n 3 L st h = tm_p1 st (fun y r => tm_p1 r (fun x r => tm_w M_I_bitCount d u0 Q u S n 4 L (.int ((x.toUInt32 >>> (y.toUInt32 &&& Int32.toUInt32 31)).toInt32) :: r) h)) := tm_r_iushr (by decide +kernel) rfl
theorem ws_I_bitCount_4 : tm_s M_I_bitCount d u0 Q u S n 4 L st h = tm_w M_I_bitCount d u0 Q u S n 7 L (.int 1431655765 :: st) h := tm_r_ldc_w (i := 265) (by decide +kernel) rfl rfl
theorem ws_I_bitCount_7 : tm_s M_I_bitCount d u0 Q u S n 7 L st h = tm_p1 st (fun y r => tm_p1 r (fun x r => tm_w M_I_bitCount d u0 Q u S n 8 L (.int (x &&& y) :: r) h)) := tm_r_iand (by decide +kernel) rfl
theorem ws_I_bitCount_8 : tm_s M_I_bitCount d u0 Q u S n 8 L st h = tm_p1 st (fun y r => tm_p1 r (fun x r => tm_w M_I_bitCount d u0 Q u S n 9 L (.int (x - y) :: r) h)) := tm_r_isub (by decide +kernel) rfl
theorem ws_I_bitCount_9 : tm_s M_I_bitCount d u0 Q u S n 9 L st h = tm_p1 st (fun x r => tm_w M_I_bitCount d u0 Q u S n 10 (L.set 0 (some (.int x))) r h) := tm_r_istore_n (i := 0) (by decide +kernel) rfl rfl (by decide)
theorem ws_I_bitCount_10 : tm_s M_I_bitCount d u0 Q u S n 10 L st h = tm_gI L 0 (fun x => tm_w M_I_bitCount d u0 Q u S n 11 L (.int x :: st) h) := tm_r_iload_n (i := 0) (by decide +kernel) rfl rfl
theorem ws_I_bitCount_11 : tm_s M_I_bitCount d u0 Q u S n 11 L st h = tm_w M_I_bitCount d u0 Q u S n 14 L (.int 858993459 :: st) h := tm_r_ldc_w (i := 266) (by decide +kernel) rfl rfl
theorem ws_I_bitCount_14 : tm_s M_I_bitCount d u0 Q u S n 14 L st h = tm_p1 st (fun y r => tm_p1 r (fun x r => tm_w M_I_bitCount d u0 Q u S n 15 L (.int (x &&& y) :: r) h)) := tm_r_iand (by decide +kernel) rfl
theorem ws_I_bitCount_15 : tm_s M_I_bitCount d u0 Q u S n 15 L st h = tm_gI L 0 (fun x => tm_w M_I_bitCount d u0 Q u S n 16 L (.int x :: st) h) := tm_r_iload_n (i := 0) (by decide +kernel) rfl rfl
theorem ws_I_bitCount_16 : tm_s M_I_bitCount d u0 Q u S n 16 L st h = tm_w M_I_bitCount d u0 Q u S n 17 L (.int 2 :: st) h := tm_r_iconst (k := 2) (by decide +kernel) rfl (by decide)
theorem ws_I_bitCount_17 : tm_s M_I_bitCount d u0 Q u S n 17 L st h = tm_p1 st (fun y r => tm_p1 r (fun x r => tm_w M_I_bitCount d u0 Q u S n 18 L (.int ((x.toUInt32 >>> (y.toUInt32 &&& Int32.toUInt32 31)).toInt32) :: r) h)) := tm_r_iushr (by decide +kernel) rfl
theorem ws_I_bitCount_18 : tm_s M_I_bitCount d u0 Q u S n 18 L st h = tm_w M_I_bitCount d u0 Q u S n 21 L (.int 858993459 :: st) h := tm_r_ldc_w (i := 266) (by decide +kernel) rfl rfl
theorem ws_I_bitCount_21 : tm_s M_I_bitCount d u0 Q u S n 21 L st h = tm_p1 st (fun y r => tm_p1 r (fun x r => tm_w M_I_bitCount d u0 Q u S n 22 L (.int (x &&& y) :: r) h)) := tm_r_iand (by decide +kernel) rfl
theorem ws_I_bitCount_22 : tm_s M_I_bitCount d u0 Q u S n 22 L st h = tm_p1 st (fun y r => tm_p1 r (fun x r => tm_w M_I_bitCount d u0 Q u S n 23 L (.int (x + y) :: r) h)) := tm_r_iadd (by decide +kernel) rfl
theorem ws_I_bitCount_23 : tm_s M_I_bitCount d u0 Q u S n 23 L st h = tm_p1 st (fun x r => tm_w M_I_bitCount d u0 Q u S n 24 (L.set 0 (some (.int x))) r h) := tm_r_istore_n (i := 0) (by decide +kernel) rfl rfl (by decide)
theorem ws_I_bitCount_24 : tm_s M_I_bitCount d u0 Q u S n 24 L st h = tm_gI L 0 (fun x => tm_w M_I_bitCount d u0 Q u S n 25 L (.int x :: st) h) := tm_r_iload_n (i := 0) (by decide +kernel) rfl rfl
theorem ws_I_bitCount_25 : tm_s M_I_bitCount d u0 Q u S n 25 L st h = tm_gI L 0 (fun x => tm_w M_I_bitCount d u0 Q u S n 26 L (.int x :: st) h) := tm_r_iload_n (i := 0) (by decide +kernel) rfl rfl
theorem ws_I_bitCount_26 : tm_s M_I_bitCount d u0 Q u S n 26 L st h = tm_w M_I_bitCount d u0 Q u S n 27 L (.int 4 :: st) h := tm_r_iconst (k := 4) (by decide +kernel) rfl (by decide)
theorem ws_I_bitCount_27 : tm_s M_I_bitCount d u0 Q u S n 27 L st h = tm_p1 st (fun y r => tm_p1 r (fun x r => tm_w M_I_bitCount d u0 Q u S n 28 L (.int ((x.toUInt32 >>> (y.toUInt32 &&& Int32.toUInt32 31)).toInt32) :: r) h)) := tm_r_iushr (by decide +kernel) rfl
theorem ws_I_bitCount_28 : tm_s M_I_bitCount d u0 Q u S n 28 L st h = tm_p1 st (fun y r => tm_p1 r (fun x r => tm_w M_I_bitCount d u0 Q u S n 29 L (.int (x + y) :: r) h)) := tm_r_iadd (by decide +kernel) rfl
theorem ws_I_bitCount_29 : tm_s M_I_bitCount d u0 Q u S n 29 L st h = tm_w M_I_bitCount d u0 Q u S n 32 L (.int 252645135 :: st) h := tm_r_ldc_w (i := 267) (by decide +kernel) rfl rfl
theorem ws_I_bitCount_32 : tm_s M_I_bitCount d u0 Q u S n 32 L st h = tm_p1 st (fun y r => tm_p1 r (fun x r => tm_w M_I_bitCount d u0 Q u S n 33 L (.int (x &&& y) :: r) h)) := tm_r_iand (by decide +kernel) rfl
theorem ws_I_bitCount_33 : tm_s M_I_bitCount d u0 Q u S n 33 L st h = tm_p1 st (fun x r => tm_w M_I_bitCount d u0 Q u S n 34 (L.set 0 (some (.int x))) r h) := tm_r_istore_n (i := 0) (by decide +kernel) rfl rfl (by decide)
theorem ws_I_bitCount_34 : tm_s M_I_bitCount d u0 Q u S n 34 L st h = tm_gI L 0 (fun x => tm_w M_I_bitCount d u0 Q u S n 35 L (.int x :: st) h) := tm_r_iload_n (i := 0) (by decide +kernel) rfl rfl
theorem ws_I_bitCount_35 : tm_s M_I_bitCount d u0 Q u S n 35 L st h = tm_gI L 0 (fun x => tm_w M_I_bitCount d u0 Q u S n 36 L (.int x :: st) h) := tm_r_iload_n (i := 0) (by decide +kernel) rfl rfl
theorem ws_I_bitCount_36 : tm_s M_I_bitCount d u0 Q u S n 36 L st h = tm_w M_I_bitCount d u0 Q u S n 38 L (.int 8 :: st) h := tm_r_bipush (k := 8) (by decide +kernel) rfl (by decide)
theorem ws_I_bitCount_38 : tm_s M_I_bitCount d u0 Q u S n 38 L st h = tm_p1 st (fun y r => tm_p1 r (fun x r => tm_w M_I_bitCount d u0 Q u S n 39 L (.int ((x.toUInt32 >>> (y.toUInt32 &&& Int32.toUInt32 31)).toInt32) :: r) h)) := tm_r_iushr (by decide +kernel) rfl
theorem ws_I_bitCount_39 : tm_s M_I_bitCount d u0 Q u S n 39 L st h = tm_p1 st (fun y r => tm_p1 r (fun x r => tm_w M_I_bitCount d u0 Q u S n 40 L (.int (x + y) :: r) h)) := tm_r_iadd (by decide +kernel) rfl
theorem ws_I_bitCount_40 : tm_s M_I_bitCount d u0 Q u S n 40 L st h = tm_p1 st (fun x r => tm_w M_I_bitCount d u0 Q u S n 41 (L.set 0 (some (.int x))) r h) := tm_r_istore_n (i := 0) (by decide +kernel) rfl rfl (by decide)
theorem ws_I_bitCount_41 : tm_s M_I_bitCount d u0 Q u S n 41 L st h = tm_gI L 0 (fun x => tm_w M_I_bitCount d u0 Q u S n 42 L (.int x :: st) h) := tm_r_iload_n (i := 0) (by decide +kernel) rfl rfl
theorem ws_I_bitCount_42 : tm_s M_I_bitCount d u0 Q u S n 42 L st h = tm_gI L 0 (fun x => tm_w M_I_bitCount d u0 Q u S n 43 L (.int x :: st) h) := tm_r_iload_n (i := 0) (by decide +kernel) rfl rfl
theorem ws_I_bitCount_43 : tm_s M_I_bitCount d u0 Q u S n 43 L st h = tm_w M_I_bitCount d u0 Q u S n 45 L (.int 16 :: st) h := tm_r_bipush (k := 16) (by decide +kernel) rfl (by decide)
theorem ws_I_bitCount_45 : tm_s M_I_bitCount d u0 Q u S n 45 L st h = tm_p1 st (fun y r => tm_p1 r (fun x r => tm_w M_I_bitCount d u0 Q u S n 46 L (.int ((x.toUInt32 >>> (y.toUInt32 &&& Int32.toUInt32 31)).toInt32) :: r) h)) := tm_r_iushr (by decide +kernel) rfl
theorem ws_I_bitCount_46 : tm_s M_I_bitCount d u0 Q u S n 46 L st h = tm_p1 st (fun y r => tm_p1 r (fun x r => tm_w M_I_bitCount d u0 Q u S n 47 L (.int (x + y) :: r) h)) := tm_r_iadd (by decide +kernel) rfl
theorem ws_I_bitCount_47 : tm_s M_I_bitCount d u0 Q u S n 47 L st h = tm_p1 st (fun x r => tm_w M_I_bitCount d u0 Q u S n 48 (L.set 0 (some (.int x))) r h) := tm_r_istore_n (i := 0) (by decide +kernel) rfl rfl (by decide)
theorem ws_I_bitCount_48 : tm_s M_I_bitCount d u0 Q u S n 48 L st h = tm_gI L 0 (fun x => tm_w M_I_bitCount d u0 Q u S n 49 L (.int x :: st) h) := tm_r_iload_n (i := 0) (by decide +kernel) rfl rfl
theorem ws_I_bitCount_49 : tm_s M_I_bitCount d u0 Q u S n 49 L st h = tm_w M_I_bitCount d u0 Q u S n 51 L (.int 63 :: st) h := tm_r_bipush (k := 63) (by decide +kernel) rfl (by decide)
theorem ws_I_bitCount_51 : tm_s M_I_bitCount d u0 Q u S n 51 L st h = tm_p1 st (fun y r => tm_p1 r (fun x r => tm_w M_I_bitCount d u0 Q u S n 52 L (.int (x &&& y) :: r) h)) := tm_r_iand (by decide +kernel) rfl
theorem ws_I_bitCount_52 : tm_s M_I_bitCount d u0 Q u S n 52 L st h = tm_p1 st (fun x r => r = [] ∧ Q (.inl (some (.int x))) h) := tm_r_iret (by decide +kernel) rfl
end WSI
