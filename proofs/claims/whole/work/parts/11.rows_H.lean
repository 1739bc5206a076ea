section WSH
variable {d u0 u : Nat} {Q : tm_O → tm_Hp → Prop} {S : List Nat} {n : Nat} {L : List (Option Value)} {st : List Value} {h : tm_Hp}
theorem ws_H_min_0 : tm_s M_H_min d u0 Q u S n 0 L st h = tm_gI L 0 (fun x => tm_w M_H_min d u0 Q u S n 1 L (.int x :: st) h) := tm_r_iload_n (i := 0) (by decide +kernel) rfl rfl
theorem ws_H_min_1 : tm_s M_H_min d u0 Q u S n 1 L st h = tm_gI L 1 (fun x => tm_w M_H_min d u0 Q u S n 2 L (.int x :: st) h) := tm_r_iload_n (i := 1) (by decide +kernel) rfl rfl
theorem ws_H_min_2 : tm_s M_H_min d u0 Q u S n 2 L st h = tm_p1 st (fun y r => tm_p1 r (fun x r => (y < x → tm_w M_H_min d u0 Q u S n 9 L r h) ∧ (¬ y < x → tm_w M_H_min d u0 Q u S n 5 L r h))) := tm_r_icgt (off := 7) (by decide +kernel) rfl rfl
theorem ws_H_min_5 : tm_s M_H_min d u0 Q u S n 5 L st h = tm_gI L 0 (fun x => tm_w M_H_min d u0 Q u S n 6 L (.int x :: st) h) := tm_r_iload_n (i := 0) (by decide +kernel) rfl rfl
theorem ws_H_min_6 : tm_s M_H_min d u0 Q u S n 6 L st h = tm_w M_H_min d u0 Q u S n 10 L st h := tm_r_goto (off := 4) (by decide +kernel) rfl
theorem ws_H_min_9 : tm_s M_H_min d u0 Q u S n 9 L st h = tm_gI L 1 (fun x => tm_w M_H_min d u0 Q u S n 10 L (.int x :: st) h) := tm_r_iload_n (i := 1) (by decide +kernel) rfl rfl
theorem ws_H_min_10 : tm_s M_H_min d u0 Q u S n 10 L st h = tm_p1 st (fun x r => r = [] ∧ Q (.inl (some (.int x))) h) := tm_r_iret (by decide +kernel) rfl
end WSH
