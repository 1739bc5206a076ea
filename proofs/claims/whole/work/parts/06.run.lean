section TMG
variable {M : tm_M} {d u0 u : Nat} {Q : tm_O → tm_Hp → Prop} {pc : Nat} {L : List (Option Value)} {st : List Value} {h : tm_Hp}
set_option maxHeartbeats 4000000 in
set_option maxRecDepth 20000 in
theorem tm_x_ok {lf : Prop} {k : Nat → List (Option Value) → List Value → tm_Hp → Prop} {ins : Instr} {len : Nat} (hk : ∀ pc L st h, k pc L st h → tm_T M d u0 Q u pc L st h) (hlf : lf → tm_T M d u0 Q u pc L st h) (hd : decode (tm_cc M) pc = .ok (ins, len)) (hx : tm_x M lf Q k ins len pc L st h) : tm_T M d u0 Q u pc L st h := by
  unfold tm_x at hx
  split at hx
  · obtain ⟨rfl, hx⟩ := hx
    exact tm_pl (hk _ _ _ _ hx) (fun p l e R s m args below meth c H locs cells slots Z ls g hF hl kk => lv_iconst hF.1 hF.2.1 hd rfl (kk ls hl))
  · obtain ⟨rfl, hx⟩ := hx
    exact tm_pl (hk _ _ _ _ hx) (fun p l e R s m args below meth c H locs cells slots Z ls g hF hl kk => lv_lconst hF.1 hF.2.1 hd rfl (kk ls hl))
  · obtain ⟨rfl, hx⟩ := hx
    exact tm_pl (hk _ _ _ _ hx) (fun p l e R s m args below meth c H locs cells slots Z ls g hF hl kk => lv_bipush hF.1 hF.2.1 hd rfl (kk ls hl))
  · obtain ⟨rfl, hx⟩ := hx
    exact tm_pl (hk _ _ _ _ hx) (fun p l e R s m args below meth c H locs cells slots Z ls g hF hl kk => lv_sipush hF.1 hF.2.1 hd rfl (kk ls hl))
  · obtain ⟨rfl, hx⟩ := hx
    obtain ⟨v, hv, hx1⟩ := tm_ot_of hx
    have hw := tm_cn_ok hv
    exact tm_pl (hk _ _ _ _ hx1) (fun p l e R s m args below meth c H locs cells slots Z ls g hF hl kk => lv_ldc hF.1 hF.2.1 hF.2.2.2.1 (hF.2.2.2.2.1 _ hw) hd (kk ls hl))
  · obtain ⟨rfl, hx⟩ := hx
    obtain ⟨v, hv, hx1⟩ := tm_ot_of hx
    have hw := tm_cn_ok hv
    exact tm_pl (hk _ _ _ _ hx1) (fun p l e R s m args below meth c H locs cells slots Z ls g hF hl kk => lv_ldcw hF.1 hF.2.1 hF.2.2.2.1 (hF.2.2.2.2.1 _ hw) hd (kk ls hl))
  · obtain ⟨rfl, hx⟩ := hx
    obtain ⟨x, h1, hx1⟩ := tm_gI_of hx
    exact tm_pl (hk _ _ _ _ hx1) (fun p l e R s m args below meth c H locs cells slots Z ls g hF hl kk => lv_iload_n hF.1 hF.2.1 hd rfl (tm_l_get hl h1 rfl) (kk ls hl))
  · obtain ⟨rfl, hx⟩ := hx
    obtain ⟨x, h1, hx1⟩ := tm_gI_of hx
    exact tm_pl (hk _ _ _ _ hx1) (fun p l e R s m args below meth c H locs cells slots Z ls g hF hl kk => lv_iload hF.1 hF.2.1 hd (tm_l_get hl h1 rfl) (kk ls hl))
  · obtain ⟨rfl, hx⟩ := hx
    obtain ⟨x, h1, hx1⟩ := tm_gA_of hx
    exact tm_pl (hk _ _ _ _ hx1) (fun p l e R s m args below meth c H locs cells slots Z ls g hF hl kk => lv_aload_n hF.1 hF.2.1 hd rfl (tm_l_get hl h1 rfl) (kk ls hl))
  · obtain ⟨rfl, hx⟩ := hx
    obtain ⟨x, h1, hx1⟩ := tm_gA_of hx
    exact tm_pl (hk _ _ _ _ hx1) (fun p l e R s m args below meth c H locs cells slots Z ls g hF hl kk => lv_aload hF.1 hF.2.1 hd (tm_l_get hl h1 rfl) (kk ls hl))
  · obtain ⟨rfl, hn, hx⟩ := hx
    obtain ⟨x, r, rfl, hx1⟩ := tm_p1_of hx
    exact tm_pl (hk _ _ _ _ hx1) (fun p l e R s m args below meth c H locs cells slots Z ls g hF hl kk => lv_istore_n hF.1 hF.2.1 hd rfl hl hn rfl (fun ls' h' => kk ls' (tm_l_set rfl h')))
  · obtain ⟨rfl, hn, hx⟩ := hx
    obtain ⟨x, r, rfl, hx1⟩ := tm_p1_of hx
    exact tm_pl (hk _ _ _ _ hx1) (fun p l e R s m args below meth c H locs cells slots Z ls g hF hl kk => lv_istore hF.1 hF.2.1 hd hl hn rfl (fun ls' h' => kk ls' (tm_l_set rfl h')))
  · obtain ⟨rfl, hn, hx⟩ := hx
    obtain ⟨x, r, rfl, hx1⟩ := tm_pA_of hx
    exact tm_pl (hk _ _ _ _ hx1) (fun p l e R s m args below meth c H locs cells slots Z ls g hF hl kk => lv_astore_n hF.1 hF.2.1 hd rfl hl hn rfl (fun ls' h' => kk ls' (tm_l_set rfl h')))
  · obtain ⟨rfl, hn, hx⟩ := hx
    obtain ⟨x, r, rfl, hx1⟩ := tm_pA_of hx
    exact tm_pl (hk _ _ _ _ hx1) (fun p l e R s m args below meth c H locs cells slots Z ls g hF hl kk => lv_astore hF.1 hF.2.1 hd hl hn rfl (fun ls' h' => kk ls' (tm_l_set rfl h')))
  · obtain ⟨rfl, hn, hx⟩ := hx
    obtain ⟨x, h1, hx1⟩ := tm_gI_of hx
    refine tm_pl (hk _ _ _ _ hx1) (fun p l e R s m args below meth c H locs cells slots Z ls g hF hl kk => ?_)
    have hm := tm_la_in g.1 L 0 _ (.int x) h1 rfl
    rw [Nat.zero_add] at hm
    obtain ⟨j, hj⟩ := List.mem_iff_getElem?.mp hm
    exact lv_iinc hF.1 hF.2.1 hd hl hj rfl hn rfl (fun ls' h' => kk ls' (tm_l_set rfl h'))
  · obtain ⟨rfl, hx⟩ := hx
    obtain ⟨y, r, rfl, hx1⟩ := tm_p1_of hx
    obtain ⟨x, r, rfl, hx2⟩ := tm_p1_of hx1
    exact tm_pl (hk _ _ _ _ hx2) (fun p l e R s m args below meth c H locs cells slots Z ls g hF hl kk => lv_iadd hF.1 hF.2.1 hd (kk ls hl))
  · obtain ⟨rfl, hx⟩ := hx
    obtain ⟨y, r, rfl, hx1⟩ := tm_p1_of hx
    obtain ⟨x, r, rfl, hx2⟩ := tm_p1_of hx1
    exact tm_pl (hk _ _ _ _ hx2) (fun p l e R s m args below meth c H locs cells slots Z ls g hF hl kk => lv_isub hF.1 hF.2.1 hd (kk ls hl))
  · obtain ⟨rfl, hx⟩ := hx
    obtain ⟨y, r, rfl, hx1⟩ := tm_p1_of hx
    obtain ⟨x, r, rfl, hx2⟩ := tm_p1_of hx1
    exact tm_pl (hk _ _ _ _ hx2) (fun p l e R s m args below meth c H locs cells slots Z ls g hF hl kk => lv_imul hF.1 hF.2.1 hd (kk ls hl))
  · obtain ⟨rfl, hx⟩ := hx
    obtain ⟨y, r, rfl, hx1⟩ := tm_p1_of hx
    obtain ⟨x, r, rfl, hn, hx2⟩ := tm_p1_of hx1
    exact tm_pl (hk _ _ _ _ hx2) (fun p l e R s m args below meth c H locs cells slots Z ls g hF hl kk => lv_idiv hF.1 hF.2.1 hd hn (kk ls hl))
  · obtain ⟨rfl, hx⟩ := hx
    obtain ⟨y, r, rfl, hx1⟩ := tm_p1_of hx
    obtain ⟨x, r, rfl, hx2⟩ := tm_p1_of hx1
    exact tm_pl (hk _ _ _ _ hx2) (fun p l e R s m args below meth c H locs cells slots Z ls g hF hl kk => lv_iand hF.1 hF.2.1 hd (kk ls hl))
  · obtain ⟨rfl, hx⟩ := hx
    obtain ⟨y, r, rfl, hx1⟩ := tm_p1_of hx
    obtain ⟨x, r, rfl, hx2⟩ := tm_p1_of hx1
    exact tm_pl (hk _ _ _ _ hx2) (fun p l e R s m args below meth c H locs cells slots Z ls g hF hl kk => lv_ior hF.1 hF.2.1 hd (kk ls hl))
  · obtain ⟨rfl, hx⟩ := hx
    obtain ⟨y, r, rfl, hx1⟩ := tm_p1_of hx
    obtain ⟨x, r, rfl, hx2⟩ := tm_p1_of hx1
    exact tm_pl (hk _ _ _ _ hx2) (fun p l e R s m args below meth c H locs cells slots Z ls g hF hl kk => lv_ixor hF.1 hF.2.1 hd (kk ls hl))
  · obtain ⟨rfl, hx⟩ := hx
    obtain ⟨y, r, rfl, hx1⟩ := tm_p1_of hx
    obtain ⟨x, r, rfl, hx2⟩ := tm_p1_of hx1
    exact tm_pl (hk _ _ _ _ hx2) (fun p l e R s m args below meth c H locs cells slots Z ls g hF hl kk => lv_ishl hF.1 hF.2.1 hd (kk ls hl))
  · obtain ⟨rfl, hx⟩ := hx
    obtain ⟨y, r, rfl, hx1⟩ := tm_p1_of hx
    obtain ⟨x, r, rfl, hx2⟩ := tm_p1_of hx1
    exact tm_pl (hk _ _ _ _ hx2) (fun p l e R s m args below meth c H locs cells slots Z ls g hF hl kk => lv_ishr hF.1 hF.2.1 hd (kk ls hl))
  · obtain ⟨rfl, hx⟩ := hx
    obtain ⟨y, r, rfl, hx1⟩ := tm_p1_of hx
    obtain ⟨x, r, rfl, hx2⟩ := tm_p1_of hx1
    exact tm_pl (hk _ _ _ _ hx2) (fun p l e R s m args below meth c H locs cells slots Z ls g hF hl kk => lv_iushr hF.1 hF.2.1 hd rfl (kk ls hl))
  · obtain ⟨rfl, hx⟩ := hx
    obtain ⟨x, r, rfl, hx1⟩ := tm_p1_of hx
    exact tm_pl (hk _ _ _ _ hx1) (fun p l e R s m args below meth c H locs cells slots Z ls g hF hl kk => lv_i2l hF.1 hF.2.1 hd rfl (kk ls hl))
  · obtain ⟨rfl, hx⟩ := hx
    obtain ⟨y, r, rfl, hx1⟩ := tm_pJ_of hx
    obtain ⟨x, r, rfl, hx2⟩ := tm_pJ_of hx1
    exact tm_pl (hk _ _ _ _ hx2) (fun p l e R s m args below meth c H locs cells slots Z ls g hF hl kk => W.lcmp hF.1 hF.2.1 hd (kk ls hl))
  · obtain ⟨rfl, hx⟩ := hx
    obtain ⟨v, r, rfl, hc, hx1⟩ := tm_pV_of hx
    exact tm_pl (hk _ _ _ _ hx1) (fun p l e R s m args below meth c H locs cells slots Z ls g hF hl kk => lv_dup hF.1 hF.2.1 hd (by rw [tm_v_cat]; exact hc) (kk ls hl))
  · obtain ⟨rfl, hx⟩ := hx
    obtain ⟨v, r, rfl, hc, hx1⟩ := tm_pV_of hx
    exact tm_pl (hk _ _ _ _ hx1) (fun p l e R s m args below meth c H locs cells slots Z ls g hF hl kk => lv_pop hF.1 hF.2.1 hd (by rw [tm_v_cat]; exact hc) (kk ls hl))
  · obtain ⟨rfl, hx⟩ := hx
    obtain ⟨v, r, rfl, hc, hx1⟩ := tm_pV_of hx
    obtain ⟨w, r, rfl, hc2, hx2⟩ := tm_pV_of hx1
    exact tm_pl (hk _ _ _ _ hx2) (fun p l e R s m args below meth c H locs cells slots Z ls g hF hl kk => lv_dup_x1 hF.1 hF.2.1 hd (by rw [tm_v_cat]; exact hc) (by rw [tm_v_cat]; exact hc2) (kk ls hl))
  · obtain ⟨rfl, hx⟩ := hx
    obtain ⟨v, r, rfl, hc, hx1⟩ := tm_pV_of hx
    obtain ⟨w, r, rfl, hc2, hx2⟩ := tm_pV_of hx1
    obtain ⟨z, r, rfl, hc3, hx3⟩ := tm_pV_of hx2
    exact tm_pl (hk _ _ _ _ hx3) (fun p l e R s m args below meth c H locs cells slots Z ls g hF hl kk => lv_dup_x2 hF.1 hF.2.1 hd (by rw [tm_v_cat]; exact hc) (by rw [tm_v_cat]; exact hc2) (by rw [tm_v_cat]; exact hc3) (kk ls hl))
  · obtain ⟨rfl, hx⟩ := hx
    obtain ⟨v, r, rfl, hc, hx1⟩ := tm_pV_of hx
    obtain ⟨w, r, rfl, hc2, hx2⟩ := tm_pV_of hx1
    exact tm_pl (hk _ _ _ _ hx2) (fun p l e R s m args below meth c H locs cells slots Z ls g hF hl kk => lv_dup2_11 hF.1 hF.2.1 hd (by rw [tm_v_cat]; exact hc) (by rw [tm_v_cat]; exact hc2) (kk ls hl))
  · obtain ⟨rfl, hp, hx⟩ := hx
    obtain ⟨x, r, rfl, h1, h2⟩ := tm_p1_of hx
    exact tm_T_ifc hd hp (fun q => hk _ _ _ _ (h1 q)) (fun q => hk _ _ _ _ (h2 q))
  · obtain ⟨rfl, hp, hx⟩ := hx
    obtain ⟨y, r, rfl, hx1⟩ := tm_p1_of hx
    obtain ⟨x, r, rfl, h1, h2⟩ := tm_p1_of hx1
    exact tm_T_icmp hd hp (fun q => hk _ _ _ _ (h1 q)) (fun q => hk _ _ _ _ (h2 q))
  · obtain ⟨rfl, hp, hx⟩ := hx
    exact tm_pl (hk _ _ _ _ hx) (fun p l e R s m args below meth c H locs cells slots Z ls g hF hl kk => lv_goto hF.1 hF.2.1 hd (tm_tgt hp) (kk ls hl))
  · obtain ⟨rfl, hx⟩ := hx
    obtain ⟨⟨ci, j⟩, hq, hx1⟩ := tm_ot_of hx
    obtain ⟨a, r, rfl, hx2⟩ := tm_pA_of hx1
    obtain ⟨fs, hfs, hx3⟩ := tm_cO_of hx2
    obtain ⟨v, hv, hx4⟩ := tm_fv_of hx3
    exact tm_T_getf hd hq hfs hv (hk _ _ _ _ hx4)
  · obtain ⟨rfl, hx⟩ := hx
    obtain ⟨⟨ci, j, b⟩, hq, hx1⟩ := tm_ot_of hx
    cases b
    · obtain ⟨v, r, rfl, hx2⟩ := tm_pA_of hx1
      obtain ⟨a, r, rfl, hx3⟩ := tm_pA_of hx2
      obtain ⟨fs, hfs, hl, hx4⟩ := tm_cO_of hx3
      exact tm_T_putf hd hq (Or.inr ⟨rfl, _, rfl⟩) hfs hl (hk _ _ _ _ hx4)
    · obtain ⟨v, r, rfl, hx5⟩ := tm_p1_of hx1
      obtain ⟨a, r, rfl, hx6⟩ := tm_pA_of hx5
      obtain ⟨fs, hfs, hl, hx7⟩ := tm_cO_of hx6
      exact tm_T_putf hd hq (Or.inl ⟨rfl, _, rfl⟩) hfs hl (hk _ _ _ _ hx7)
  · obtain ⟨rfl, hx⟩ := hx
    obtain ⟨i, r, rfl, hx1⟩ := tm_p1_of hx
    obtain ⟨a, r, rfl, hx2⟩ := tm_pA_of hx1
    obtain ⟨n, f, hfs, hi, hx3⟩ := tm_cI_of hx2
    exact tm_T_iald hd hfs hi (hk _ _ _ _ hx3)
  · obtain ⟨rfl, hx⟩ := hx
    obtain ⟨i, r, rfl, hx1⟩ := tm_p1_of hx
    obtain ⟨a, r, rfl, hx2⟩ := tm_pA_of hx1
    obtain ⟨n, f, hfs, hi, hx3⟩ := tm_cZ_of hx2
    exact tm_T_zald hd hfs hi (hk _ _ _ _ hx3)
  · obtain ⟨rfl, hx⟩ := hx
    obtain ⟨i, r, rfl, hx1⟩ := tm_p1_of hx
    obtain ⟨a, r, rfl, hx2⟩ := tm_pA_of hx1
    obtain ⟨n, f, hfs, hi, hx3⟩ := tm_cJ_of hx2
    exact tm_T_lald hd hfs hi (hk _ _ _ _ hx3)
  · obtain ⟨rfl, hx⟩ := hx
    obtain ⟨i, r, rfl, hx1⟩ := tm_p1_of hx
    obtain ⟨a, r, rfl, hx2⟩ := tm_pA_of hx1
    obtain ⟨n, f, hfs, hi, hx3⟩ := tm_cQ_of hx2
    obtain ⟨b, hb, hx4⟩ := tm_rq_of hx3
    exact tm_T_aald hd hfs hi hb (hk _ _ _ _ hx4)
  · obtain ⟨rfl, hx⟩ := hx
    obtain ⟨x, r, rfl, hx1⟩ := tm_p1_of hx
    obtain ⟨i, r, rfl, hx2⟩ := tm_p1_of hx1
    obtain ⟨a, r, rfl, hx3⟩ := tm_pA_of hx2
    obtain ⟨n, f, hfs, ha, hi, hx4⟩ := tm_cI_of hx3
    exact tm_T_iast hd hfs ha hi (hk _ _ _ _ hx4)
  · obtain ⟨rfl, hx⟩ := hx
    obtain ⟨x, r, rfl, hx1⟩ := tm_p1_of hx
    obtain ⟨i, r, rfl, hx2⟩ := tm_p1_of hx1
    obtain ⟨a, r, rfl, hx3⟩ := tm_pA_of hx2
    obtain ⟨n, f, hfs, hi, hx4⟩ := tm_cZ_of hx3
    exact tm_T_zast hd hfs hi (hk _ _ _ _ hx4)
  · obtain ⟨rfl, hx⟩ := hx
    obtain ⟨x, r, rfl, hx1⟩ := tm_pJ_of hx
    obtain ⟨i, r, rfl, hx2⟩ := tm_p1_of hx1
    obtain ⟨a, r, rfl, hx3⟩ := tm_pA_of hx2
    obtain ⟨n, f, hfs, hi, hx4⟩ := tm_cJ_of hx3
    exact tm_T_last hd hfs hi (hk _ _ _ _ hx4)
  · obtain ⟨rfl, hx⟩ := hx
    obtain ⟨a, r, rfl, hx1⟩ := tm_pA_of hx
    obtain ⟨n, f, hfs, hx2⟩ := tm_cI_of hx1
    exact tm_T_alen hd hfs (hk _ _ _ _ hx2)
  · obtain ⟨rfl, hx⟩ := hx
    obtain ⟨x, r, rfl, rfl, ht, hq⟩ := tm_p1_of hx
    exact tm_T_iret hd ht hq
  · obtain ⟨rfl, hx⟩ := hx
    obtain ⟨x, r, rfl, rfl, ⟨n, ht⟩, hq⟩ := tm_pA_of hx
    exact tm_T_aret hd ht hq
  · obtain ⟨rfl, rfl, ht, hq⟩ := hx
    exact tm_T_vret hd ht hq
  · exact hlf hx
  · exact hlf hx
  · exact hlf hx
  · exact hlf hx
  · exact hlf hx
  · exact hx.elim
theorem tm_s_ok {S : List Nat} {n : Nat} (hw : ∀ pc L st h, tm_w M d u0 Q u S n pc L st h → tm_T M d u0 Q u pc L st h) (hx : tm_s M d u0 Q u S n pc L st h) : tm_T M d u0 Q u pc L st h := by
  unfold tm_s tm_on at hx
  split at hx
  · rename_i i len he
    exact tm_x_ok hw (fun q => q) he hx
  · exact hx.elim
theorem tm_w_ok {S : List Nat} : ∀ (n pc : Nat) (L : List (Option Value)) (st : List Value) (h : tm_Hp), tm_w M d u0 Q u S n pc L st h → tm_T M d u0 Q u pc L st h
  | 0, _, _, _, _, hx => hx
  | n + 1, pc, L, st, h, hx => by
    rw [tm_w_s] at hx
    cases hc : S.contains pc with
    | true => rw [hc] at hx; exact hx
    | false => rw [hc] at hx; exact tm_s_ok (fun pc L st h => tm_w_ok n pc L st h) hx
/-- go on from here: n instructions, up to a place in S -/
theorem tm_run (S : List Nat) (n : Nat) (hx : tm_s M d u0 Q u S n pc L st h) : tm_T M d u0 Q u pc L st h := tm_s_ok (tm_w_ok n) hx
end TMG
section TMH
variable {M : tm_M} {d u0 u : Nat} {Q : tm_O → tm_Hp → Prop} {S : List Nat} {n pc : Nat} {L : List (Option Value)} {st : List Value} {h : tm_Hp}
theorem tm_s_d {ins : Instr} {len : Nat} (hd : decode (tm_cc M) pc = .ok (ins, len)) : tm_s M d u0 Q u S n pc L st h = tm_x M (tm_T M d u0 Q u pc L st h) Q (tm_w M d u0 Q u S n) ins len pc L st h := by
  unfold tm_s
  rw [hd]
  rfl
theorem tm_and {P : Prop} {c : Prop} (h : c) : (c ∧ P) = P := propext ⟨fun q => q.2, fun q => ⟨h, q⟩⟩
end TMH
