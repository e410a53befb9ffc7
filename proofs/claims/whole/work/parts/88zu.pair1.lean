/-! THE LAW: the class's call and the model's, together -/
theorem cr_x {S : M9} {x M u v tl hn wn fr : Nat} {T Wt : Nat → Int32} {eA : Int32} {H : Nat → CSt} {C : CSt} {s0 s1 : CSl} (h : CR S x M u v tl T eA hn H C wn Wt s0 s1 fr) : x ∈ gL S ∧ gK S x = 10 := by
  obtain ⟨tx, hi, rp, sb, o0, o1, nx, sa, ka, na, Ls, Cs, a1, -⟩ := h
  exact ⟨a1.1, a1.2.1⟩
section PRS
variable {ks : Nat → Nat} {d n : Nat} {Q : QP} {S : M9} {x m ol od : Nat} {ad : Nat → Nat}
theorem pr_setTable (hks : ¬ ks 11 = ks 10) (hL : LI S x m ol od ad n) (hn : n < 512) {a b : Int32} (h : ∀ S1 (k : Nat), k ≤ 3 → MdC ks n_X9_setTable [.ref m, .int a, .int b] S1 x m ol od ad (n + 1) k → MdF S1 m ol od → Q (.inl (some (.int (nI k)))) S1) : WG ks (d + 30) n_L_setTable [.ref x, .int a, .int b, .ref ol] S Q := by
  obtain ⟨M, u, v, tl, T, eA, hn', H, C, wn, Wt, s0, s1, fr, hR, hM, hB, hO, b1, b2, b3⟩ := hL
  obtain ⟨hV, hVH⟩ := cr_VC hR hB
  have hcc : u + 110 ≤ cCM ∧ v + 910000 ≤ cSM := by unfold cCM cSM; omega
  have hx := cr_x hR
  have hrm : Rm S := cr_rm (by omega) hR
  obtain ⟨st, L9, hQ⟩ := cr_q hR
  have hM9 : M ≤ 9800 := by omega
  have hm := hM.1.1
  have z0 : Int32.toNatClampNeg 0 = 0 := by decide
  have w0 : vp_in 0 1 := vp_in_nI (n := 0) (by decide) (by decide)
  have hOs := hO
  obtain ⟨⟨p1, p2, p3⟩, -⟩ := hOs
  have hMC := mo_sC hM
  have hRC := cr_sC hR
  have hOC := hO.fr (Fr.sC S 1 6)
  have hmC := hMC.1.1
  refine ⟨by simp [cat1, Value.category], by show (4 : Nat) ≤ 5; decide, ?_⟩
  show Run ks (WG ks (d + 29)) Q tb_L_setTable 0 [some (.ref x), some (.int a), some (.int b), some (.ref ol), none] [] S
  simp only [e_L_setTable_0, e_L_setTable_1, e_L_setTable_2, e_L_setTable_3, e_L_setTable_4, e_L_setTable_5, e_L_setTable_8, e_L_setTable_9, e_L_setTable_10, e_L_setTable_13, e_L_setTable_15, e_L_setTable_16, e_L_setTable_17, e_L_setTable_19, e_L_setTable_20, e_L_setTable_21, e_L_setTable_22, o_const, o_iload, o_aload, o_fload, o_dload, o_istore, o_astore, o_fstore, o_dstore, o_iinc, o_bin, o_div, o_un, o_i2l, o_i2f, o_i2d, o_f2d, o_fdiv, o_ddiv, o_lcmp, o_fcmp, o_dcmp, o_if, o_if2, o_goto, o_dup, o_dupx1, o_dup2, o_pop, o_getI, o_getR, o_putI, o_putR, o_iald, o_iast, o_bald, o_bast, o_zald, o_zast, o_aald, o_aast, o_jald, o_jast, o_dald, o_dast, o_alen, o_castA, o_new, o_newa, o_callv, o_callvN, o_calli, o_calls, o_objinit, o_iret, o_zret, o_fret, o_dret, o_aret, o_vret, o_throw, o_acopy, o_bcopy, o_clone, o_tsw, o_ldcS, o_kval, o_kcoder, o_klen, o_kald, o_tald, o_getSq, o_callk, o_callvH, gl, stl, stl2, pre2, va_rf, Value.category, catS, List.length_cons, List.length_nil, List.map_cons, List.map_nil, List.sum_cons, List.sum_nil, List.take_succ_cons, List.take_zero, List.drop_succ_cons, List.drop_zero, List.reverse_cons, List.reverse_nil, List.nil_append, List.cons_append, true_and, and_true, if_true, Nat.reduceAdd, Nat.reduceLT, Nat.reduceLeDiff, hx]
  refine ⟨⟨x, _, rfl, rfl, hx⟩, sp_setTable (by omega) (by omega) hR ?_ ?_ ?_⟩
  · intro S' hc hR' F'
    have hM' := mo_cls hM F'
    have hO' := hO.fr F'
    have hOt := hO'
    obtain ⟨⟨q1, q2, q3⟩, -⟩ := hOt
    simp only [behH, e_L_setTable_0, e_L_setTable_1, e_L_setTable_2, e_L_setTable_3, e_L_setTable_4, e_L_setTable_5, e_L_setTable_8, e_L_setTable_9, e_L_setTable_10, e_L_setTable_13, e_L_setTable_15, e_L_setTable_16, e_L_setTable_17, e_L_setTable_19, e_L_setTable_20, e_L_setTable_21, e_L_setTable_22, o_const, o_iload, o_aload, o_fload, o_dload, o_istore, o_astore, o_fstore, o_dstore, o_iinc, o_bin, o_div, o_un, o_i2l, o_i2f, o_i2d, o_f2d, o_fdiv, o_ddiv, o_lcmp, o_fcmp, o_dcmp, o_if, o_if2, o_goto, o_dup, o_dupx1, o_dup2, o_pop, o_getI, o_getR, o_putI, o_putR, o_iald, o_iast, o_bald, o_bast, o_zald, o_zast, o_aald, o_aast, o_jald, o_jast, o_dald, o_dast, o_alen, o_castA, o_new, o_newa, o_callv, o_callvN, o_calli, o_calls, o_objinit, o_iret, o_zret, o_fret, o_dret, o_aret, o_vret, o_throw, o_acopy, o_bcopy, o_clone, o_tsw, o_ldcS, o_kval, o_kcoder, o_klen, o_kald, o_tald, o_getSq, o_callk, o_callvH, gl, stl, stl2, pre2, va_rf, Value.category, catS, List.length_cons, List.length_nil, List.map_cons, List.map_nil, List.sum_cons, List.sum_nil, List.take_succ_cons, List.take_zero, List.drop_succ_cons, List.drop_zero, List.reverse_cons, List.reverse_nil, List.nil_append, List.cons_append, true_and, and_true, if_true, Nat.reduceAdd, Nat.reduceLT, Nat.reduceLeDiff, q1, q2, q3, z0, w0]
    exact h _ 0 (by decide) (fun d2 Q2 hq => sp_mSetTable (mo_sJ hM') (by omega) hV hVH (fun S2 _ hMo g6 F2 => hq S2 _ (li_mk (cr_sJ hR') hMo F2 (hB.push hB.1) (o_sJ hO') (by omega) (by omega) (by omega)) g6 (fun _ => by rw [gJ_keep (o_sJ hO') F2, gJ_at])) (fun S2 w e hMo g6 F2 => absurd hc e)) ⟨(mo_sJ hM').1.1, o_sJ hO'⟩
  · intro e
    simp only [behH]
    refine ⟨_, rfl, fun q => ?_⟩
    simp only [e_L_setTable_0, e_L_setTable_1, e_L_setTable_2, e_L_setTable_3, e_L_setTable_4, e_L_setTable_5, e_L_setTable_8, e_L_setTable_9, e_L_setTable_10, e_L_setTable_13, e_L_setTable_15, e_L_setTable_16, e_L_setTable_17, e_L_setTable_19, e_L_setTable_20, e_L_setTable_21, e_L_setTable_22, o_const, o_iload, o_aload, o_fload, o_dload, o_istore, o_astore, o_fstore, o_dstore, o_iinc, o_bin, o_div, o_un, o_i2l, o_i2f, o_i2d, o_f2d, o_fdiv, o_ddiv, o_lcmp, o_fcmp, o_dcmp, o_if, o_if2, o_goto, o_dup, o_dupx1, o_dup2, o_pop, o_getI, o_getR, o_putI, o_putR, o_iald, o_iast, o_bald, o_bast, o_zald, o_zast, o_aald, o_aast, o_jald, o_jast, o_dald, o_dast, o_alen, o_castA, o_new, o_newa, o_callv, o_callvN, o_calli, o_calls, o_objinit, o_iret, o_zret, o_fret, o_dret, o_aret, o_vret, o_throw, o_acopy, o_bcopy, o_clone, o_tsw, o_ldcS, o_kval, o_kcoder, o_klen, o_kald, o_tald, o_getSq, o_callk, o_callvH, gl, stl, stl2, pre2, va_rf, Value.category, catS, List.length_cons, List.length_nil, List.map_cons, List.map_nil, List.sum_cons, List.sum_nil, List.take_succ_cons, List.take_zero, List.drop_succ_cons, List.drop_zero, List.reverse_cons, List.reverse_nil, List.nil_append, List.cons_append, true_and, and_true, if_true, Nat.reduceAdd, Nat.reduceLT, Nat.reduceLeDiff]
    exact h _ 1 (by decide) (fun d2 Q2 hq => sp_mSetTable hMC (by omega) hV hVH (fun S2 e2 hMo g6 F2 => absurd (e2.symm.trans e) (by decide)) (fun S2 w e2 hMo g6 F2 => hq S2 w (li_mk hRC hMo F2 hB hOC (by omega) (by omega) (by omega)) (g6.trans (congrArg nI e)) (fun z => absurd z (by decide)))) ⟨hmC, hOC⟩
  · intro e
    simp only [behH]
    refine ⟨_, rfl, fun q => ?_⟩
    simp only [e_L_setTable_0, e_L_setTable_1, e_L_setTable_2, e_L_setTable_3, e_L_setTable_4, e_L_setTable_5, e_L_setTable_8, e_L_setTable_9, e_L_setTable_10, e_L_setTable_13, e_L_setTable_15, e_L_setTable_16, e_L_setTable_17, e_L_setTable_19, e_L_setTable_20, e_L_setTable_21, e_L_setTable_22, o_const, o_iload, o_aload, o_fload, o_dload, o_istore, o_astore, o_fstore, o_dstore, o_iinc, o_bin, o_div, o_un, o_i2l, o_i2f, o_i2d, o_f2d, o_fdiv, o_ddiv, o_lcmp, o_fcmp, o_dcmp, o_if, o_if2, o_goto, o_dup, o_dupx1, o_dup2, o_pop, o_getI, o_getR, o_putI, o_putR, o_iald, o_iast, o_bald, o_bast, o_zald, o_zast, o_aald, o_aast, o_jald, o_jast, o_dald, o_dast, o_alen, o_castA, o_new, o_newa, o_callv, o_callvN, o_calli, o_calls, o_objinit, o_iret, o_zret, o_fret, o_dret, o_aret, o_vret, o_throw, o_acopy, o_bcopy, o_clone, o_tsw, o_ldcS, o_kval, o_kcoder, o_klen, o_kald, o_tald, o_getSq, o_callk, o_callvH, gl, stl, stl2, pre2, va_rf, Value.category, catS, List.length_cons, List.length_nil, List.map_cons, List.map_nil, List.sum_cons, List.sum_nil, List.take_succ_cons, List.take_zero, List.drop_succ_cons, List.drop_zero, List.reverse_cons, List.reverse_nil, List.nil_append, List.cons_append, true_and, and_true, if_true, Nat.reduceAdd, Nat.reduceLT, Nat.reduceLeDiff]
    exact h _ 2 (by decide) (fun d2 Q2 hq => sp_mSetTable hMC (by omega) hV hVH (fun S2 e2 hMo g6 F2 => absurd (e2.symm.trans e) (by decide)) (fun S2 w e2 hMo g6 F2 => hq S2 w (li_mk hRC hMo F2 hB hOC (by omega) (by omega) (by omega)) (g6.trans (congrArg nI e)) (fun z => absurd z (by decide)))) ⟨hmC, hOC⟩
theorem pr_setNoise (hks : ¬ ks 11 = ks 10) (hL : LI S x m ol od ad n) (hn : n < 512) {a : Int32} (h : ∀ S1 (k : Nat), k ≤ 3 → MdC ks n_X9_setNoise [.ref m, .int a] S1 x m ol od ad (n + 1) k → MdF S1 m ol od → Q (.inl (some (.int (nI k)))) S1) : WG ks (d + 30) n_L_setNoise [.ref x, .int a, .ref ol] S Q := by
  obtain ⟨M, u, v, tl, T, eA, hn', H, C, wn, Wt, s0, s1, fr, hR, hM, hB, hO, b1, b2, b3⟩ := hL
  obtain ⟨hV, hVH⟩ := cr_VC hR hB
  have hcc : u + 110 ≤ cCM ∧ v + 910000 ≤ cSM := by unfold cCM cSM; omega
  have hx := cr_x hR
  have hrm : Rm S := cr_rm (by omega) hR
  obtain ⟨st, L9, hQ⟩ := cr_q hR
  have hM9 : M ≤ 9800 := by omega
  have hm := hM.1.1
  have z0 : Int32.toNatClampNeg 0 = 0 := by decide
  have w0 : vp_in 0 1 := vp_in_nI (n := 0) (by decide) (by decide)
  have hOs := hO
  obtain ⟨⟨p1, p2, p3⟩, -⟩ := hOs
  have hMC := mo_sC hM
  have hRC := cr_sC hR
  have hOC := hO.fr (Fr.sC S 1 6)
  have hmC := hMC.1.1
  refine ⟨by simp [cat1, Value.category], by show (3 : Nat) ≤ 4; decide, ?_⟩
  show Run ks (WG ks (d + 29)) Q tb_L_setNoise 0 [some (.ref x), some (.int a), some (.ref ol), none] [] S
  simp only [e_L_setNoise_0, e_L_setNoise_1, e_L_setNoise_2, e_L_setNoise_3, e_L_setNoise_4, e_L_setNoise_7, e_L_setNoise_8, e_L_setNoise_9, e_L_setNoise_12, e_L_setNoise_13, e_L_setNoise_14, e_L_setNoise_15, e_L_setNoise_16, o_const, o_iload, o_aload, o_fload, o_dload, o_istore, o_astore, o_fstore, o_dstore, o_iinc, o_bin, o_div, o_un, o_i2l, o_i2f, o_i2d, o_f2d, o_fdiv, o_ddiv, o_lcmp, o_fcmp, o_dcmp, o_if, o_if2, o_goto, o_dup, o_dupx1, o_dup2, o_pop, o_getI, o_getR, o_putI, o_putR, o_iald, o_iast, o_bald, o_bast, o_zald, o_zast, o_aald, o_aast, o_jald, o_jast, o_dald, o_dast, o_alen, o_castA, o_new, o_newa, o_callv, o_callvN, o_calli, o_calls, o_objinit, o_iret, o_zret, o_fret, o_dret, o_aret, o_vret, o_throw, o_acopy, o_bcopy, o_clone, o_tsw, o_ldcS, o_kval, o_kcoder, o_klen, o_kald, o_tald, o_getSq, o_callk, o_callvH, gl, stl, stl2, pre2, va_rf, Value.category, catS, List.length_cons, List.length_nil, List.map_cons, List.map_nil, List.sum_cons, List.sum_nil, List.take_succ_cons, List.take_zero, List.drop_succ_cons, List.drop_zero, List.reverse_cons, List.reverse_nil, List.nil_append, List.cons_append, true_and, and_true, if_true, Nat.reduceAdd, Nat.reduceLT, Nat.reduceLeDiff, hx]
  refine ⟨⟨x, _, rfl, rfl, hx⟩, sp_setNoise (by omega) (by omega) hR ?_ ?_⟩
  · intro S' hc hR' F'
    have hM' := mo_cls hM F'
    have hO' := hO.fr F'
    have hOt := hO'
    obtain ⟨⟨q1, q2, q3⟩, -⟩ := hOt
    simp only [behH, e_L_setNoise_0, e_L_setNoise_1, e_L_setNoise_2, e_L_setNoise_3, e_L_setNoise_4, e_L_setNoise_7, e_L_setNoise_8, e_L_setNoise_9, e_L_setNoise_12, e_L_setNoise_13, e_L_setNoise_14, e_L_setNoise_15, e_L_setNoise_16, o_const, o_iload, o_aload, o_fload, o_dload, o_istore, o_astore, o_fstore, o_dstore, o_iinc, o_bin, o_div, o_un, o_i2l, o_i2f, o_i2d, o_f2d, o_fdiv, o_ddiv, o_lcmp, o_fcmp, o_dcmp, o_if, o_if2, o_goto, o_dup, o_dupx1, o_dup2, o_pop, o_getI, o_getR, o_putI, o_putR, o_iald, o_iast, o_bald, o_bast, o_zald, o_zast, o_aald, o_aast, o_jald, o_jast, o_dald, o_dast, o_alen, o_castA, o_new, o_newa, o_callv, o_callvN, o_calli, o_calls, o_objinit, o_iret, o_zret, o_fret, o_dret, o_aret, o_vret, o_throw, o_acopy, o_bcopy, o_clone, o_tsw, o_ldcS, o_kval, o_kcoder, o_klen, o_kald, o_tald, o_getSq, o_callk, o_callvH, gl, stl, stl2, pre2, va_rf, Value.category, catS, List.length_cons, List.length_nil, List.map_cons, List.map_nil, List.sum_cons, List.sum_nil, List.take_succ_cons, List.take_zero, List.drop_succ_cons, List.drop_zero, List.reverse_cons, List.reverse_nil, List.nil_append, List.cons_append, true_and, and_true, if_true, Nat.reduceAdd, Nat.reduceLT, Nat.reduceLeDiff, q1, q2, q3, z0, w0]
    exact h _ 0 (by decide) (fun d2 Q2 hq => sp_mSetNoise (mo_sJ hM') (by omega) hV hVH (fun S2 _ hMo g6 F2 => hq S2 _ (li_mk (cr_sJ hR') hMo F2 (hB.push hB.1) (o_sJ hO') (by omega) (by omega) (by omega)) g6 (fun _ => by rw [gJ_keep (o_sJ hO') F2, gJ_at])) (fun S2 w e hMo g6 F2 => absurd (hc.symm.trans e) (by decide))) ⟨(mo_sJ hM').1.1, o_sJ hO'⟩
  · intro e
    simp only [behH]
    refine ⟨_, rfl, fun q => ?_⟩
    simp only [e_L_setNoise_0, e_L_setNoise_1, e_L_setNoise_2, e_L_setNoise_3, e_L_setNoise_4, e_L_setNoise_7, e_L_setNoise_8, e_L_setNoise_9, e_L_setNoise_12, e_L_setNoise_13, e_L_setNoise_14, e_L_setNoise_15, e_L_setNoise_16, o_const, o_iload, o_aload, o_fload, o_dload, o_istore, o_astore, o_fstore, o_dstore, o_iinc, o_bin, o_div, o_un, o_i2l, o_i2f, o_i2d, o_f2d, o_fdiv, o_ddiv, o_lcmp, o_fcmp, o_dcmp, o_if, o_if2, o_goto, o_dup, o_dupx1, o_dup2, o_pop, o_getI, o_getR, o_putI, o_putR, o_iald, o_iast, o_bald, o_bast, o_zald, o_zast, o_aald, o_aast, o_jald, o_jast, o_dald, o_dast, o_alen, o_castA, o_new, o_newa, o_callv, o_callvN, o_calli, o_calls, o_objinit, o_iret, o_zret, o_fret, o_dret, o_aret, o_vret, o_throw, o_acopy, o_bcopy, o_clone, o_tsw, o_ldcS, o_kval, o_kcoder, o_klen, o_kald, o_tald, o_getSq, o_callk, o_callvH, gl, stl, stl2, pre2, va_rf, Value.category, catS, List.length_cons, List.length_nil, List.map_cons, List.map_nil, List.sum_cons, List.sum_nil, List.take_succ_cons, List.take_zero, List.drop_succ_cons, List.drop_zero, List.reverse_cons, List.reverse_nil, List.nil_append, List.cons_append, true_and, and_true, if_true, Nat.reduceAdd, Nat.reduceLT, Nat.reduceLeDiff]
    exact h _ 1 (by decide) (fun d2 Q2 hq => sp_mSetNoise hMC (by omega) hV hVH (fun S2 e2 hMo g6 F2 => absurd (e2.symm.trans e) (by decide)) (fun S2 w e2 hMo g6 F2 => hq S2 w (li_mk hRC hMo F2 hB hOC (by omega) (by omega) (by omega)) g6 (fun z => absurd z (by decide)))) ⟨hmC, hOC⟩
theorem pr_calibrate (hks : ¬ ks 11 = ks 10) (hL : LI S x m ol od ad n) (hn : n < 512) {a b : Int32} (h : ∀ S1 (k : Nat), k ≤ 3 → MdC ks n_X9_calibrate [.ref m, .int a, .int b] S1 x m ol od ad (n + 1) k → MdF S1 m ol od → Q (.inl (some (.int (nI k)))) S1) : WG ks (d + 30) n_L_calibrate [.ref x, .int a, .int b, .ref ol] S Q := by
  obtain ⟨M, u, v, tl, T, eA, hn', H, C, wn, Wt, s0, s1, fr, hR, hM, hB, hO, b1, b2, b3⟩ := hL
  obtain ⟨hV, hVH⟩ := cr_VC hR hB
  have hcc : u + 110 ≤ cCM ∧ v + 910000 ≤ cSM := by unfold cCM cSM; omega
  have hx := cr_x hR
  have hrm : Rm S := cr_rm (by omega) hR
  obtain ⟨st, L9, hQ⟩ := cr_q hR
  have hM9 : M ≤ 9800 := by omega
  have hm := hM.1.1
  have z0 : Int32.toNatClampNeg 0 = 0 := by decide
  have w0 : vp_in 0 1 := vp_in_nI (n := 0) (by decide) (by decide)
  have hOs := hO
  obtain ⟨⟨p1, p2, p3⟩, -⟩ := hOs
  have hMC := mo_sC hM
  have hRC := cr_sC hR
  have hOC := hO.fr (Fr.sC S 1 6)
  have hmC := hMC.1.1
  refine ⟨by simp [cat1, Value.category], by show (4 : Nat) ≤ 5; decide, ?_⟩
  show Run ks (WG ks (d + 29)) Q tb_L_calibrate 0 [some (.ref x), some (.int a), some (.int b), some (.ref ol), none] [] S
  simp only [e_L_calibrate_0, e_L_calibrate_1, e_L_calibrate_2, e_L_calibrate_3, e_L_calibrate_4, e_L_calibrate_5, e_L_calibrate_8, e_L_calibrate_9, e_L_calibrate_10, e_L_calibrate_13, e_L_calibrate_15, e_L_calibrate_16, e_L_calibrate_17, e_L_calibrate_19, e_L_calibrate_20, e_L_calibrate_21, e_L_calibrate_23, e_L_calibrate_24, e_L_calibrate_25, e_L_calibrate_26, o_const, o_iload, o_aload, o_fload, o_dload, o_istore, o_astore, o_fstore, o_dstore, o_iinc, o_bin, o_div, o_un, o_i2l, o_i2f, o_i2d, o_f2d, o_fdiv, o_ddiv, o_lcmp, o_fcmp, o_dcmp, o_if, o_if2, o_goto, o_dup, o_dupx1, o_dup2, o_pop, o_getI, o_getR, o_putI, o_putR, o_iald, o_iast, o_bald, o_bast, o_zald, o_zast, o_aald, o_aast, o_jald, o_jast, o_dald, o_dast, o_alen, o_castA, o_new, o_newa, o_callv, o_callvN, o_calli, o_calls, o_objinit, o_iret, o_zret, o_fret, o_dret, o_aret, o_vret, o_throw, o_acopy, o_bcopy, o_clone, o_tsw, o_ldcS, o_kval, o_kcoder, o_klen, o_kald, o_tald, o_getSq, o_callk, o_callvH, gl, stl, stl2, pre2, va_rf, Value.category, catS, List.length_cons, List.length_nil, List.map_cons, List.map_nil, List.sum_cons, List.sum_nil, List.take_succ_cons, List.take_zero, List.drop_succ_cons, List.drop_zero, List.reverse_cons, List.reverse_nil, List.nil_append, List.cons_append, true_and, and_true, if_true, Nat.reduceAdd, Nat.reduceLT, Nat.reduceLeDiff, hx]
  refine ⟨⟨x, _, rfl, rfl, hx⟩, sp_calibrate (by omega) (by omega) hR ?_ ?_ ?_ ?_⟩
  · intro S' hc hR' F'
    have hM' := mo_cls hM F'
    have hO' := hO.fr F'
    have hOt := hO'
    obtain ⟨⟨q1, q2, q3⟩, -⟩ := hOt
    simp only [behH, e_L_calibrate_0, e_L_calibrate_1, e_L_calibrate_2, e_L_calibrate_3, e_L_calibrate_4, e_L_calibrate_5, e_L_calibrate_8, e_L_calibrate_9, e_L_calibrate_10, e_L_calibrate_13, e_L_calibrate_15, e_L_calibrate_16, e_L_calibrate_17, e_L_calibrate_19, e_L_calibrate_20, e_L_calibrate_21, e_L_calibrate_23, e_L_calibrate_24, e_L_calibrate_25, e_L_calibrate_26, o_const, o_iload, o_aload, o_fload, o_dload, o_istore, o_astore, o_fstore, o_dstore, o_iinc, o_bin, o_div, o_un, o_i2l, o_i2f, o_i2d, o_f2d, o_fdiv, o_ddiv, o_lcmp, o_fcmp, o_dcmp, o_if, o_if2, o_goto, o_dup, o_dupx1, o_dup2, o_pop, o_getI, o_getR, o_putI, o_putR, o_iald, o_iast, o_bald, o_bast, o_zald, o_zast, o_aald, o_aast, o_jald, o_jast, o_dald, o_dast, o_alen, o_castA, o_new, o_newa, o_callv, o_callvN, o_calli, o_calls, o_objinit, o_iret, o_zret, o_fret, o_dret, o_aret, o_vret, o_throw, o_acopy, o_bcopy, o_clone, o_tsw, o_ldcS, o_kval, o_kcoder, o_klen, o_kald, o_tald, o_getSq, o_callk, o_callvH, gl, stl, stl2, pre2, va_rf, Value.category, catS, List.length_cons, List.length_nil, List.map_cons, List.map_nil, List.sum_cons, List.sum_nil, List.take_succ_cons, List.take_zero, List.drop_succ_cons, List.drop_zero, List.reverse_cons, List.reverse_nil, List.nil_append, List.cons_append, true_and, and_true, if_true, Nat.reduceAdd, Nat.reduceLT, Nat.reduceLeDiff, q1, q2, q3, z0, w0]
    exact h _ 0 (by decide) (fun d2 Q2 hq => sp_mCalibrate (mo_sJ hM') (by omega) hV hVH (fun S2 _ hMo g6 F2 => hq S2 _ (li_mk (cr_sJ hR') hMo F2 (hB.push hB.1) (o_sJ hO') (by omega) (by omega) (by omega)) g6 (fun _ => by rw [gJ_keep (o_sJ hO') F2, gJ_at])) (fun S2 w e hMo g6 F2 => absurd hc e)) ⟨(mo_sJ hM').1.1, o_sJ hO'⟩
  · intro e
    simp only [behH]
    refine ⟨_, rfl, fun q => ?_⟩
    simp only [e_L_calibrate_0, e_L_calibrate_1, e_L_calibrate_2, e_L_calibrate_3, e_L_calibrate_4, e_L_calibrate_5, e_L_calibrate_8, e_L_calibrate_9, e_L_calibrate_10, e_L_calibrate_13, e_L_calibrate_15, e_L_calibrate_16, e_L_calibrate_17, e_L_calibrate_19, e_L_calibrate_20, e_L_calibrate_21, e_L_calibrate_23, e_L_calibrate_24, e_L_calibrate_25, e_L_calibrate_26, o_const, o_iload, o_aload, o_fload, o_dload, o_istore, o_astore, o_fstore, o_dstore, o_iinc, o_bin, o_div, o_un, o_i2l, o_i2f, o_i2d, o_f2d, o_fdiv, o_ddiv, o_lcmp, o_fcmp, o_dcmp, o_if, o_if2, o_goto, o_dup, o_dupx1, o_dup2, o_pop, o_getI, o_getR, o_putI, o_putR, o_iald, o_iast, o_bald, o_bast, o_zald, o_zast, o_aald, o_aast, o_jald, o_jast, o_dald, o_dast, o_alen, o_castA, o_new, o_newa, o_callv, o_callvN, o_calli, o_calls, o_objinit, o_iret, o_zret, o_fret, o_dret, o_aret, o_vret, o_throw, o_acopy, o_bcopy, o_clone, o_tsw, o_ldcS, o_kval, o_kcoder, o_klen, o_kald, o_tald, o_getSq, o_callk, o_callvH, gl, stl, stl2, pre2, va_rf, Value.category, catS, List.length_cons, List.length_nil, List.map_cons, List.map_nil, List.sum_cons, List.sum_nil, List.take_succ_cons, List.take_zero, List.drop_succ_cons, List.drop_zero, List.reverse_cons, List.reverse_nil, List.nil_append, List.cons_append, true_and, and_true, if_true, Nat.reduceAdd, Nat.reduceLT, Nat.reduceLeDiff]
    exact h _ 1 (by decide) (fun d2 Q2 hq => sp_mCalibrate hMC (by omega) hV hVH (fun S2 e2 hMo g6 F2 => absurd (e2.symm.trans e) (by decide)) (fun S2 w e2 hMo g6 F2 => hq S2 w (li_mk hRC hMo F2 hB hOC (by omega) (by omega) (by omega)) (g6.trans (congrArg nI e)) (fun z => absurd z (by decide)))) ⟨hmC, hOC⟩
  · intro e
    simp only [behH]
    refine ⟨_, rfl, fun q => ?_⟩
    simp only [e_L_calibrate_0, e_L_calibrate_1, e_L_calibrate_2, e_L_calibrate_3, e_L_calibrate_4, e_L_calibrate_5, e_L_calibrate_8, e_L_calibrate_9, e_L_calibrate_10, e_L_calibrate_13, e_L_calibrate_15, e_L_calibrate_16, e_L_calibrate_17, e_L_calibrate_19, e_L_calibrate_20, e_L_calibrate_21, e_L_calibrate_23, e_L_calibrate_24, e_L_calibrate_25, e_L_calibrate_26, o_const, o_iload, o_aload, o_fload, o_dload, o_istore, o_astore, o_fstore, o_dstore, o_iinc, o_bin, o_div, o_un, o_i2l, o_i2f, o_i2d, o_f2d, o_fdiv, o_ddiv, o_lcmp, o_fcmp, o_dcmp, o_if, o_if2, o_goto, o_dup, o_dupx1, o_dup2, o_pop, o_getI, o_getR, o_putI, o_putR, o_iald, o_iast, o_bald, o_bast, o_zald, o_zast, o_aald, o_aast, o_jald, o_jast, o_dald, o_dast, o_alen, o_castA, o_new, o_newa, o_callv, o_callvN, o_calli, o_calls, o_objinit, o_iret, o_zret, o_fret, o_dret, o_aret, o_vret, o_throw, o_acopy, o_bcopy, o_clone, o_tsw, o_ldcS, o_kval, o_kcoder, o_klen, o_kald, o_tald, o_getSq, o_callk, o_callvH, gl, stl, stl2, pre2, va_rf, Value.category, catS, List.length_cons, List.length_nil, List.map_cons, List.map_nil, List.sum_cons, List.sum_nil, List.take_succ_cons, List.take_zero, List.drop_succ_cons, List.drop_zero, List.reverse_cons, List.reverse_nil, List.nil_append, List.cons_append, true_and, and_true, if_true, Nat.reduceAdd, Nat.reduceLT, Nat.reduceLeDiff]
    exact h _ 2 (by decide) (fun d2 Q2 hq => sp_mCalibrate hMC (by omega) hV hVH (fun S2 e2 hMo g6 F2 => absurd (e2.symm.trans e) (by decide)) (fun S2 w e2 hMo g6 F2 => hq S2 w (li_mk hRC hMo F2 hB hOC (by omega) (by omega) (by omega)) (g6.trans (congrArg nI e)) (fun z => absurd z (by decide)))) ⟨hmC, hOC⟩
  · intro e
    simp only [behH]
    refine ⟨_, rfl, fun q => ?_⟩
    simp only [e_L_calibrate_0, e_L_calibrate_1, e_L_calibrate_2, e_L_calibrate_3, e_L_calibrate_4, e_L_calibrate_5, e_L_calibrate_8, e_L_calibrate_9, e_L_calibrate_10, e_L_calibrate_13, e_L_calibrate_15, e_L_calibrate_16, e_L_calibrate_17, e_L_calibrate_19, e_L_calibrate_20, e_L_calibrate_21, e_L_calibrate_23, e_L_calibrate_24, e_L_calibrate_25, e_L_calibrate_26, o_const, o_iload, o_aload, o_fload, o_dload, o_istore, o_astore, o_fstore, o_dstore, o_iinc, o_bin, o_div, o_un, o_i2l, o_i2f, o_i2d, o_f2d, o_fdiv, o_ddiv, o_lcmp, o_fcmp, o_dcmp, o_if, o_if2, o_goto, o_dup, o_dupx1, o_dup2, o_pop, o_getI, o_getR, o_putI, o_putR, o_iald, o_iast, o_bald, o_bast, o_zald, o_zast, o_aald, o_aast, o_jald, o_jast, o_dald, o_dast, o_alen, o_castA, o_new, o_newa, o_callv, o_callvN, o_calli, o_calls, o_objinit, o_iret, o_zret, o_fret, o_dret, o_aret, o_vret, o_throw, o_acopy, o_bcopy, o_clone, o_tsw, o_ldcS, o_kval, o_kcoder, o_klen, o_kald, o_tald, o_getSq, o_callk, o_callvH, gl, stl, stl2, pre2, va_rf, Value.category, catS, List.length_cons, List.length_nil, List.map_cons, List.map_nil, List.sum_cons, List.sum_nil, List.take_succ_cons, List.take_zero, List.drop_succ_cons, List.drop_zero, List.reverse_cons, List.reverse_nil, List.nil_append, List.cons_append, true_and, and_true, if_true, Nat.reduceAdd, Nat.reduceLT, Nat.reduceLeDiff]
    exact h _ 3 (by decide) (fun d2 Q2 hq => sp_mCalibrate hMC (by omega) hV hVH (fun S2 e2 hMo g6 F2 => absurd (e2.symm.trans e) (by decide)) (fun S2 w e2 hMo g6 F2 => hq S2 w (li_mk hRC hMo F2 hB hOC (by omega) (by omega) (by omega)) (g6.trans (congrArg nI e)) (fun z => absurd z (by decide)))) ⟨hmC, hOC⟩
theorem pr_calibrateAll (hks : ¬ ks 11 = ks 10) (hL : LI S x m ol od ad n) (hn : n < 512) {a : Int32} (h : ∀ S1 (k : Nat), k ≤ 3 → MdC ks n_X9_calibrateAll [.ref m, .int a] S1 x m ol od ad (n + 1) k → MdF S1 m ol od → Q (.inl (some (.int (nI k)))) S1) : WG ks (d + 30) n_L_calibrateAll [.ref x, .int a, .ref ol] S Q := by
  obtain ⟨M, u, v, tl, T, eA, hn', H, C, wn, Wt, s0, s1, fr, hR, hM, hB, hO, b1, b2, b3⟩ := hL
  obtain ⟨hV, hVH⟩ := cr_VC hR hB
  have hcc : u + 110 ≤ cCM ∧ v + 910000 ≤ cSM := by unfold cCM cSM; omega
  have hx := cr_x hR
  have hrm : Rm S := cr_rm (by omega) hR
  obtain ⟨st, L9, hQ⟩ := cr_q hR
  have hM9 : M ≤ 9800 := by omega
  have hm := hM.1.1
  have z0 : Int32.toNatClampNeg 0 = 0 := by decide
  have w0 : vp_in 0 1 := vp_in_nI (n := 0) (by decide) (by decide)
  have hOs := hO
  obtain ⟨⟨p1, p2, p3⟩, -⟩ := hOs
  have hMC := mo_sC hM
  have hRC := cr_sC hR
  have hOC := hO.fr (Fr.sC S 1 6)
  have hmC := hMC.1.1
  refine ⟨by simp [cat1, Value.category], by show (3 : Nat) ≤ 4; decide, ?_⟩
  show Run ks (WG ks (d + 29)) Q tb_L_calibrateAll 0 [some (.ref x), some (.int a), some (.ref ol), none] [] S
  simp only [e_L_calibrateAll_0, e_L_calibrateAll_1, e_L_calibrateAll_2, e_L_calibrateAll_3, e_L_calibrateAll_4, e_L_calibrateAll_7, e_L_calibrateAll_8, e_L_calibrateAll_9, e_L_calibrateAll_12, e_L_calibrateAll_13, e_L_calibrateAll_14, e_L_calibrateAll_15, e_L_calibrateAll_16, o_const, o_iload, o_aload, o_fload, o_dload, o_istore, o_astore, o_fstore, o_dstore, o_iinc, o_bin, o_div, o_un, o_i2l, o_i2f, o_i2d, o_f2d, o_fdiv, o_ddiv, o_lcmp, o_fcmp, o_dcmp, o_if, o_if2, o_goto, o_dup, o_dupx1, o_dup2, o_pop, o_getI, o_getR, o_putI, o_putR, o_iald, o_iast, o_bald, o_bast, o_zald, o_zast, o_aald, o_aast, o_jald, o_jast, o_dald, o_dast, o_alen, o_castA, o_new, o_newa, o_callv, o_callvN, o_calli, o_calls, o_objinit, o_iret, o_zret, o_fret, o_dret, o_aret, o_vret, o_throw, o_acopy, o_bcopy, o_clone, o_tsw, o_ldcS, o_kval, o_kcoder, o_klen, o_kald, o_tald, o_getSq, o_callk, o_callvH, gl, stl, stl2, pre2, va_rf, Value.category, catS, List.length_cons, List.length_nil, List.map_cons, List.map_nil, List.sum_cons, List.sum_nil, List.take_succ_cons, List.take_zero, List.drop_succ_cons, List.drop_zero, List.reverse_cons, List.reverse_nil, List.nil_append, List.cons_append, true_and, and_true, if_true, Nat.reduceAdd, Nat.reduceLT, Nat.reduceLeDiff, hx]
  refine ⟨⟨x, _, rfl, rfl, hx⟩, sp_calibrateAll (by omega) (by omega) hR ?_ ?_⟩
  · intro S' hc hR' F'
    have hM' := mo_cls hM F'
    have hO' := hO.fr F'
    have hOt := hO'
    obtain ⟨⟨q1, q2, q3⟩, -⟩ := hOt
    simp only [behH, e_L_calibrateAll_0, e_L_calibrateAll_1, e_L_calibrateAll_2, e_L_calibrateAll_3, e_L_calibrateAll_4, e_L_calibrateAll_7, e_L_calibrateAll_8, e_L_calibrateAll_9, e_L_calibrateAll_12, e_L_calibrateAll_13, e_L_calibrateAll_14, e_L_calibrateAll_15, e_L_calibrateAll_16, o_const, o_iload, o_aload, o_fload, o_dload, o_istore, o_astore, o_fstore, o_dstore, o_iinc, o_bin, o_div, o_un, o_i2l, o_i2f, o_i2d, o_f2d, o_fdiv, o_ddiv, o_lcmp, o_fcmp, o_dcmp, o_if, o_if2, o_goto, o_dup, o_dupx1, o_dup2, o_pop, o_getI, o_getR, o_putI, o_putR, o_iald, o_iast, o_bald, o_bast, o_zald, o_zast, o_aald, o_aast, o_jald, o_jast, o_dald, o_dast, o_alen, o_castA, o_new, o_newa, o_callv, o_callvN, o_calli, o_calls, o_objinit, o_iret, o_zret, o_fret, o_dret, o_aret, o_vret, o_throw, o_acopy, o_bcopy, o_clone, o_tsw, o_ldcS, o_kval, o_kcoder, o_klen, o_kald, o_tald, o_getSq, o_callk, o_callvH, gl, stl, stl2, pre2, va_rf, Value.category, catS, List.length_cons, List.length_nil, List.map_cons, List.map_nil, List.sum_cons, List.sum_nil, List.take_succ_cons, List.take_zero, List.drop_succ_cons, List.drop_zero, List.reverse_cons, List.reverse_nil, List.nil_append, List.cons_append, true_and, and_true, if_true, Nat.reduceAdd, Nat.reduceLT, Nat.reduceLeDiff, q1, q2, q3, z0, w0]
    exact h _ 0 (by decide) (fun d2 Q2 hq => sp_mCalibrateAll (mo_sJ hM') (by omega) hV hVH (fun S2 _ hMo g6 F2 => hq S2 _ (li_mk (cr_sJ hR') hMo F2 (hB.push ((cAl_V (aWm (sSet C)) C hV).2.2.2)) (o_sJ hO') (by omega) (by omega) (by omega)) g6 (fun _ => by rw [gJ_keep (o_sJ hO') F2, gJ_at])) (fun S2 w e hMo g6 F2 => absurd (hc.symm.trans e) (by decide))) ⟨(mo_sJ hM').1.1, o_sJ hO'⟩
  · intro e
    simp only [behH]
    refine ⟨_, rfl, fun q => ?_⟩
    simp only [e_L_calibrateAll_0, e_L_calibrateAll_1, e_L_calibrateAll_2, e_L_calibrateAll_3, e_L_calibrateAll_4, e_L_calibrateAll_7, e_L_calibrateAll_8, e_L_calibrateAll_9, e_L_calibrateAll_12, e_L_calibrateAll_13, e_L_calibrateAll_14, e_L_calibrateAll_15, e_L_calibrateAll_16, o_const, o_iload, o_aload, o_fload, o_dload, o_istore, o_astore, o_fstore, o_dstore, o_iinc, o_bin, o_div, o_un, o_i2l, o_i2f, o_i2d, o_f2d, o_fdiv, o_ddiv, o_lcmp, o_fcmp, o_dcmp, o_if, o_if2, o_goto, o_dup, o_dupx1, o_dup2, o_pop, o_getI, o_getR, o_putI, o_putR, o_iald, o_iast, o_bald, o_bast, o_zald, o_zast, o_aald, o_aast, o_jald, o_jast, o_dald, o_dast, o_alen, o_castA, o_new, o_newa, o_callv, o_callvN, o_calli, o_calls, o_objinit, o_iret, o_zret, o_fret, o_dret, o_aret, o_vret, o_throw, o_acopy, o_bcopy, o_clone, o_tsw, o_ldcS, o_kval, o_kcoder, o_klen, o_kald, o_tald, o_getSq, o_callk, o_callvH, gl, stl, stl2, pre2, va_rf, Value.category, catS, List.length_cons, List.length_nil, List.map_cons, List.map_nil, List.sum_cons, List.sum_nil, List.take_succ_cons, List.take_zero, List.drop_succ_cons, List.drop_zero, List.reverse_cons, List.reverse_nil, List.nil_append, List.cons_append, true_and, and_true, if_true, Nat.reduceAdd, Nat.reduceLT, Nat.reduceLeDiff]
    exact h _ 1 (by decide) (fun d2 Q2 hq => sp_mCalibrateAll hMC (by omega) hV hVH (fun S2 e2 hMo g6 F2 => absurd (e2.symm.trans e) (by decide)) (fun S2 w e2 hMo g6 F2 => hq S2 w (li_mk hRC hMo F2 hB hOC (by omega) (by omega) (by omega)) g6 (fun z => absurd z (by decide)))) ⟨hmC, hOC⟩
theorem pr_convert (hks : ¬ ks 11 = ks 10) (hL : LI S x m ol od ad n) (hn : n < 512) {a : Int32} (h : ∀ S1 (k : Nat), k ≤ 3 → MdC ks n_X9_convert [.ref m, .int a] S1 x m ol od ad (n + 1) k → MdF S1 m ol od → Q (.inl (some (.int (nI k)))) S1) : WG ks (d + 30) n_L_convert [.ref x, .int a, .ref ol] S Q := by
  obtain ⟨M, u, v, tl, T, eA, hn', H, C, wn, Wt, s0, s1, fr, hR, hM, hB, hO, b1, b2, b3⟩ := hL
  obtain ⟨hV, hVH⟩ := cr_VC hR hB
  have hcc : u + 110 ≤ cCM ∧ v + 910000 ≤ cSM := by unfold cCM cSM; omega
  have hx := cr_x hR
  have hrm : Rm S := cr_rm (by omega) hR
  obtain ⟨st, L9, hQ⟩ := cr_q hR
  have hM9 : M ≤ 9800 := by omega
  have hm := hM.1.1
  have z0 : Int32.toNatClampNeg 0 = 0 := by decide
  have w0 : vp_in 0 1 := vp_in_nI (n := 0) (by decide) (by decide)
  have hOs := hO
  obtain ⟨⟨p1, p2, p3⟩, -⟩ := hOs
  have hMC := mo_sC hM
  have hRC := cr_sC hR
  have hOC := hO.fr (Fr.sC S 1 6)
  have hmC := hMC.1.1
  refine ⟨by simp [cat1, Value.category], by show (3 : Nat) ≤ 4; decide, ?_⟩
  show Run ks (WG ks (d + 29)) Q tb_L_convert 0 [some (.ref x), some (.int a), some (.ref ol), none] [] S
  simp only [e_L_convert_0, e_L_convert_1, e_L_convert_2, e_L_convert_3, e_L_convert_4, e_L_convert_7, e_L_convert_8, e_L_convert_9, e_L_convert_12, e_L_convert_13, e_L_convert_14, e_L_convert_15, e_L_convert_16, o_const, o_iload, o_aload, o_fload, o_dload, o_istore, o_astore, o_fstore, o_dstore, o_iinc, o_bin, o_div, o_un, o_i2l, o_i2f, o_i2d, o_f2d, o_fdiv, o_ddiv, o_lcmp, o_fcmp, o_dcmp, o_if, o_if2, o_goto, o_dup, o_dupx1, o_dup2, o_pop, o_getI, o_getR, o_putI, o_putR, o_iald, o_iast, o_bald, o_bast, o_zald, o_zast, o_aald, o_aast, o_jald, o_jast, o_dald, o_dast, o_alen, o_castA, o_new, o_newa, o_callv, o_callvN, o_calli, o_calls, o_objinit, o_iret, o_zret, o_fret, o_dret, o_aret, o_vret, o_throw, o_acopy, o_bcopy, o_clone, o_tsw, o_ldcS, o_kval, o_kcoder, o_klen, o_kald, o_tald, o_getSq, o_callk, o_callvH, gl, stl, stl2, pre2, va_rf, Value.category, catS, List.length_cons, List.length_nil, List.map_cons, List.map_nil, List.sum_cons, List.sum_nil, List.take_succ_cons, List.take_zero, List.drop_succ_cons, List.drop_zero, List.reverse_cons, List.reverse_nil, List.nil_append, List.cons_append, true_and, and_true, if_true, Nat.reduceAdd, Nat.reduceLT, Nat.reduceLeDiff, hx]
  refine ⟨⟨x, _, rfl, rfl, hx⟩, sp_convert (by omega) (by omega) hR ?_ ?_⟩
  · intro S' D hc hR' F'
    have hM' := mo_cls hM F'
    have hO' := hO.fr F'
    have hOt := hO'
    obtain ⟨⟨q1, q2, q3⟩, -⟩ := hOt
    simp only [behH, e_L_convert_0, e_L_convert_1, e_L_convert_2, e_L_convert_3, e_L_convert_4, e_L_convert_7, e_L_convert_8, e_L_convert_9, e_L_convert_12, e_L_convert_13, e_L_convert_14, e_L_convert_15, e_L_convert_16, o_const, o_iload, o_aload, o_fload, o_dload, o_istore, o_astore, o_fstore, o_dstore, o_iinc, o_bin, o_div, o_un, o_i2l, o_i2f, o_i2d, o_f2d, o_fdiv, o_ddiv, o_lcmp, o_fcmp, o_dcmp, o_if, o_if2, o_goto, o_dup, o_dupx1, o_dup2, o_pop, o_getI, o_getR, o_putI, o_putR, o_iald, o_iast, o_bald, o_bast, o_zald, o_zast, o_aald, o_aast, o_jald, o_jast, o_dald, o_dast, o_alen, o_castA, o_new, o_newa, o_callv, o_callvN, o_calli, o_calls, o_objinit, o_iret, o_zret, o_fret, o_dret, o_aret, o_vret, o_throw, o_acopy, o_bcopy, o_clone, o_tsw, o_ldcS, o_kval, o_kcoder, o_klen, o_kald, o_tald, o_getSq, o_callk, o_callvH, gl, stl, stl2, pre2, va_rf, Value.category, catS, List.length_cons, List.length_nil, List.map_cons, List.map_nil, List.sum_cons, List.sum_nil, List.take_succ_cons, List.take_zero, List.drop_succ_cons, List.drop_zero, List.reverse_cons, List.reverse_nil, List.nil_append, List.cons_append, true_and, and_true, if_true, Nat.reduceAdd, Nat.reduceLT, Nat.reduceLeDiff, q1, q2, q3, z0, w0]
    exact h _ 0 (by decide) (fun d2 Q2 hq => sp_mConvert (mo_sJ hM') (by omega) hV hVH D (fun S2 _ hMo g6 F2 => hq S2 _ (li_mk (cr_sJ hR') hMo F2 (hB.push ((hV.cvK (x := a.toNatClampNeg) (D := D)).2.2.2)) (o_sJ hO') (by omega) (by omega) (by omega)) g6 (fun _ => by rw [gJ_keep (o_sJ hO') F2, gJ_at])) (fun S2 w e hMo g6 F2 => absurd (hc.symm.trans e) (by decide))) ⟨(mo_sJ hM').1.1, o_sJ hO'⟩
  · intro e
    simp only [behH]
    refine ⟨_, rfl, fun q => ?_⟩
    simp only [e_L_convert_0, e_L_convert_1, e_L_convert_2, e_L_convert_3, e_L_convert_4, e_L_convert_7, e_L_convert_8, e_L_convert_9, e_L_convert_12, e_L_convert_13, e_L_convert_14, e_L_convert_15, e_L_convert_16, o_const, o_iload, o_aload, o_fload, o_dload, o_istore, o_astore, o_fstore, o_dstore, o_iinc, o_bin, o_div, o_un, o_i2l, o_i2f, o_i2d, o_f2d, o_fdiv, o_ddiv, o_lcmp, o_fcmp, o_dcmp, o_if, o_if2, o_goto, o_dup, o_dupx1, o_dup2, o_pop, o_getI, o_getR, o_putI, o_putR, o_iald, o_iast, o_bald, o_bast, o_zald, o_zast, o_aald, o_aast, o_jald, o_jast, o_dald, o_dast, o_alen, o_castA, o_new, o_newa, o_callv, o_callvN, o_calli, o_calls, o_objinit, o_iret, o_zret, o_fret, o_dret, o_aret, o_vret, o_throw, o_acopy, o_bcopy, o_clone, o_tsw, o_ldcS, o_kval, o_kcoder, o_klen, o_kald, o_tald, o_getSq, o_callk, o_callvH, gl, stl, stl2, pre2, va_rf, Value.category, catS, List.length_cons, List.length_nil, List.map_cons, List.map_nil, List.sum_cons, List.sum_nil, List.take_succ_cons, List.take_zero, List.drop_succ_cons, List.drop_zero, List.reverse_cons, List.reverse_nil, List.nil_append, List.cons_append, true_and, and_true, if_true, Nat.reduceAdd, Nat.reduceLT, Nat.reduceLeDiff]
    exact h _ 1 (by decide) (fun d2 Q2 hq => sp_mConvert hMC (by omega) hV hVH (fun _ => 0) (fun S2 e2 hMo g6 F2 => absurd (e2.symm.trans e) (by decide)) (fun S2 w e2 hMo g6 F2 => hq S2 w (li_mk hRC hMo F2 hB hOC (by omega) (by omega) (by omega)) g6 (fun z => absurd z (by decide)))) ⟨hmC, hOC⟩
theorem pr_forget (hks : ¬ ks 11 = ks 10) (hL : LI S x m ol od ad n) (hn : n < 512) {a : Int32} (h : ∀ S1 (k : Nat), k ≤ 3 → MdC ks n_X9_forget [.ref m, .int a] S1 x m ol od ad (n + 1) k → MdF S1 m ol od → Q (.inl (some (.int (nI k)))) S1) : WG ks (d + 30) n_L_forget [.ref x, .int a, .ref ol] S Q := by
  obtain ⟨M, u, v, tl, T, eA, hn', H, C, wn, Wt, s0, s1, fr, hR, hM, hB, hO, b1, b2, b3⟩ := hL
  obtain ⟨hV, hVH⟩ := cr_VC hR hB
  have hcc : u + 110 ≤ cCM ∧ v + 910000 ≤ cSM := by unfold cCM cSM; omega
  have hx := cr_x hR
  have hrm : Rm S := cr_rm (by omega) hR
  obtain ⟨st, L9, hQ⟩ := cr_q hR
  have hM9 : M ≤ 9800 := by omega
  have hm := hM.1.1
  have z0 : Int32.toNatClampNeg 0 = 0 := by decide
  have w0 : vp_in 0 1 := vp_in_nI (n := 0) (by decide) (by decide)
  have hOs := hO
  obtain ⟨⟨p1, p2, p3⟩, -⟩ := hOs
  have hMC := mo_sC hM
  have hRC := cr_sC hR
  have hOC := hO.fr (Fr.sC S 1 6)
  have hmC := hMC.1.1
  refine ⟨by simp [cat1, Value.category], by show (3 : Nat) ≤ 4; decide, ?_⟩
  show Run ks (WG ks (d + 29)) Q tb_L_forget 0 [some (.ref x), some (.int a), some (.ref ol), none] [] S
  simp only [e_L_forget_0, e_L_forget_1, e_L_forget_2, e_L_forget_3, e_L_forget_4, e_L_forget_7, e_L_forget_8, e_L_forget_9, e_L_forget_12, e_L_forget_13, e_L_forget_14, e_L_forget_15, e_L_forget_16, o_const, o_iload, o_aload, o_fload, o_dload, o_istore, o_astore, o_fstore, o_dstore, o_iinc, o_bin, o_div, o_un, o_i2l, o_i2f, o_i2d, o_f2d, o_fdiv, o_ddiv, o_lcmp, o_fcmp, o_dcmp, o_if, o_if2, o_goto, o_dup, o_dupx1, o_dup2, o_pop, o_getI, o_getR, o_putI, o_putR, o_iald, o_iast, o_bald, o_bast, o_zald, o_zast, o_aald, o_aast, o_jald, o_jast, o_dald, o_dast, o_alen, o_castA, o_new, o_newa, o_callv, o_callvN, o_calli, o_calls, o_objinit, o_iret, o_zret, o_fret, o_dret, o_aret, o_vret, o_throw, o_acopy, o_bcopy, o_clone, o_tsw, o_ldcS, o_kval, o_kcoder, o_klen, o_kald, o_tald, o_getSq, o_callk, o_callvH, gl, stl, stl2, pre2, va_rf, Value.category, catS, List.length_cons, List.length_nil, List.map_cons, List.map_nil, List.sum_cons, List.sum_nil, List.take_succ_cons, List.take_zero, List.drop_succ_cons, List.drop_zero, List.reverse_cons, List.reverse_nil, List.nil_append, List.cons_append, true_and, and_true, if_true, Nat.reduceAdd, Nat.reduceLT, Nat.reduceLeDiff, hx]
  refine ⟨⟨x, _, rfl, rfl, hx⟩, sp_forget (by omega) (by omega) hR ?_ ?_⟩
  · intro S' hc hR' F'
    have hM' := mo_cls hM F'
    have hO' := hO.fr F'
    have hOt := hO'
    obtain ⟨⟨q1, q2, q3⟩, -⟩ := hOt
    simp only [behH, e_L_forget_0, e_L_forget_1, e_L_forget_2, e_L_forget_3, e_L_forget_4, e_L_forget_7, e_L_forget_8, e_L_forget_9, e_L_forget_12, e_L_forget_13, e_L_forget_14, e_L_forget_15, e_L_forget_16, o_const, o_iload, o_aload, o_fload, o_dload, o_istore, o_astore, o_fstore, o_dstore, o_iinc, o_bin, o_div, o_un, o_i2l, o_i2f, o_i2d, o_f2d, o_fdiv, o_ddiv, o_lcmp, o_fcmp, o_dcmp, o_if, o_if2, o_goto, o_dup, o_dupx1, o_dup2, o_pop, o_getI, o_getR, o_putI, o_putR, o_iald, o_iast, o_bald, o_bast, o_zald, o_zast, o_aald, o_aast, o_jald, o_jast, o_dald, o_dast, o_alen, o_castA, o_new, o_newa, o_callv, o_callvN, o_calli, o_calls, o_objinit, o_iret, o_zret, o_fret, o_dret, o_aret, o_vret, o_throw, o_acopy, o_bcopy, o_clone, o_tsw, o_ldcS, o_kval, o_kcoder, o_klen, o_kald, o_tald, o_getSq, o_callk, o_callvH, gl, stl, stl2, pre2, va_rf, Value.category, catS, List.length_cons, List.length_nil, List.map_cons, List.map_nil, List.sum_cons, List.sum_nil, List.take_succ_cons, List.take_zero, List.drop_succ_cons, List.drop_zero, List.reverse_cons, List.reverse_nil, List.nil_append, List.cons_append, true_and, and_true, if_true, Nat.reduceAdd, Nat.reduceLT, Nat.reduceLeDiff, q1, q2, q3, z0, w0]
    exact h _ 0 (by decide) (fun d2 Q2 hq => sp_mForget (mo_sJ hM') (by omega) hV hVH (fun S2 _ hMo g6 F2 => hq S2 _ (li_mk (cr_sJ hR') hMo F2 (hB.push hB.1) (o_sJ hO') (by omega) (by omega) (by omega)) g6 (fun _ => by rw [gJ_keep (o_sJ hO') F2, gJ_at])) (fun S2 w e hMo g6 F2 => absurd (hc.symm.trans e) (by decide))) ⟨(mo_sJ hM').1.1, o_sJ hO'⟩
  · intro e
    simp only [behH]
    refine ⟨_, rfl, fun q => ?_⟩
    simp only [e_L_forget_0, e_L_forget_1, e_L_forget_2, e_L_forget_3, e_L_forget_4, e_L_forget_7, e_L_forget_8, e_L_forget_9, e_L_forget_12, e_L_forget_13, e_L_forget_14, e_L_forget_15, e_L_forget_16, o_const, o_iload, o_aload, o_fload, o_dload, o_istore, o_astore, o_fstore, o_dstore, o_iinc, o_bin, o_div, o_un, o_i2l, o_i2f, o_i2d, o_f2d, o_fdiv, o_ddiv, o_lcmp, o_fcmp, o_dcmp, o_if, o_if2, o_goto, o_dup, o_dupx1, o_dup2, o_pop, o_getI, o_getR, o_putI, o_putR, o_iald, o_iast, o_bald, o_bast, o_zald, o_zast, o_aald, o_aast, o_jald, o_jast, o_dald, o_dast, o_alen, o_castA, o_new, o_newa, o_callv, o_callvN, o_calli, o_calls, o_objinit, o_iret, o_zret, o_fret, o_dret, o_aret, o_vret, o_throw, o_acopy, o_bcopy, o_clone, o_tsw, o_ldcS, o_kval, o_kcoder, o_klen, o_kald, o_tald, o_getSq, o_callk, o_callvH, gl, stl, stl2, pre2, va_rf, Value.category, catS, List.length_cons, List.length_nil, List.map_cons, List.map_nil, List.sum_cons, List.sum_nil, List.take_succ_cons, List.take_zero, List.drop_succ_cons, List.drop_zero, List.reverse_cons, List.reverse_nil, List.nil_append, List.cons_append, true_and, and_true, if_true, Nat.reduceAdd, Nat.reduceLT, Nat.reduceLeDiff]
    exact h _ 1 (by decide) (fun d2 Q2 hq => sp_mForget hMC (by omega) hV hVH (fun S2 e2 hMo g6 F2 => absurd (e2.symm.trans e) (by decide)) (fun S2 w e2 hMo g6 F2 => hq S2 w (li_mk hRC hMo F2 hB hOC (by omega) (by omega) (by omega)) g6 (fun z => absurd z (by decide)))) ⟨hmC, hOC⟩
theorem pr_count (hks : ¬ ks 11 = ks 10) (hL : LI S x m ol od ad n) (hn : n < 512) {a : Int32} (h : ∀ S1 (k : Nat), k ≤ 3 → MdC ks n_X9_count [.ref m, .int a] S1 x m ol od ad (n + 1) k → MdF S1 m ol od → Q (.inl (some (.int (nI k)))) S1) : WG ks (d + 30) n_L_count [.ref x, .int a, .ref ol] S Q := by
  obtain ⟨M, u, v, tl, T, eA, hn', H, C, wn, Wt, s0, s1, fr, hR, hM, hB, hO, b1, b2, b3⟩ := hL
  obtain ⟨hV, hVH⟩ := cr_VC hR hB
  have hcc : u + 110 ≤ cCM ∧ v + 910000 ≤ cSM := by unfold cCM cSM; omega
  have hx := cr_x hR
  have hrm : Rm S := cr_rm (by omega) hR
  obtain ⟨st, L9, hQ⟩ := cr_q hR
  have hM9 : M ≤ 9800 := by omega
  have hm := hM.1.1
  have z0 : Int32.toNatClampNeg 0 = 0 := by decide
  have w0 : vp_in 0 1 := vp_in_nI (n := 0) (by decide) (by decide)
  have hOs := hO
  obtain ⟨⟨p1, p2, p3⟩, -⟩ := hOs
  have hMC := mo_sC hM
  have hRC := cr_sC hR
  have hOC := hO.fr (Fr.sC S 1 6)
  have hmC := hMC.1.1
  refine ⟨by simp [cat1, Value.category], by show (3 : Nat) ≤ 4; decide, ?_⟩
  show Run ks (WG ks (d + 29)) Q tb_L_count 0 [some (.ref x), some (.int a), some (.ref ol), none] [] S
  simp only [e_L_count_0, e_L_count_1, e_L_count_2, e_L_count_3, e_L_count_4, e_L_count_7, e_L_count_8, e_L_count_9, e_L_count_12, e_L_count_13, e_L_count_14, e_L_count_15, e_L_count_16, o_const, o_iload, o_aload, o_fload, o_dload, o_istore, o_astore, o_fstore, o_dstore, o_iinc, o_bin, o_div, o_un, o_i2l, o_i2f, o_i2d, o_f2d, o_fdiv, o_ddiv, o_lcmp, o_fcmp, o_dcmp, o_if, o_if2, o_goto, o_dup, o_dupx1, o_dup2, o_pop, o_getI, o_getR, o_putI, o_putR, o_iald, o_iast, o_bald, o_bast, o_zald, o_zast, o_aald, o_aast, o_jald, o_jast, o_dald, o_dast, o_alen, o_castA, o_new, o_newa, o_callv, o_callvN, o_calli, o_calls, o_objinit, o_iret, o_zret, o_fret, o_dret, o_aret, o_vret, o_throw, o_acopy, o_bcopy, o_clone, o_tsw, o_ldcS, o_kval, o_kcoder, o_klen, o_kald, o_tald, o_getSq, o_callk, o_callvH, gl, stl, stl2, pre2, va_rf, Value.category, catS, List.length_cons, List.length_nil, List.map_cons, List.map_nil, List.sum_cons, List.sum_nil, List.take_succ_cons, List.take_zero, List.drop_succ_cons, List.drop_zero, List.reverse_cons, List.reverse_nil, List.nil_append, List.cons_append, true_and, and_true, if_true, Nat.reduceAdd, Nat.reduceLT, Nat.reduceLeDiff, hx]
  refine ⟨⟨x, _, rfl, rfl, hx⟩, sp_count hrm hQ ?_ ?_⟩
  · intro hc
    have F' := Fr.rf S
    have hR' := hR
    have hM' := hM
    have hO' := hO
    have hOt := hO'
    obtain ⟨⟨q1, q2, q3⟩, -⟩ := hOt
    simp only [behH, e_L_count_0, e_L_count_1, e_L_count_2, e_L_count_3, e_L_count_4, e_L_count_7, e_L_count_8, e_L_count_9, e_L_count_12, e_L_count_13, e_L_count_14, e_L_count_15, e_L_count_16, o_const, o_iload, o_aload, o_fload, o_dload, o_istore, o_astore, o_fstore, o_dstore, o_iinc, o_bin, o_div, o_un, o_i2l, o_i2f, o_i2d, o_f2d, o_fdiv, o_ddiv, o_lcmp, o_fcmp, o_dcmp, o_if, o_if2, o_goto, o_dup, o_dupx1, o_dup2, o_pop, o_getI, o_getR, o_putI, o_putR, o_iald, o_iast, o_bald, o_bast, o_zald, o_zast, o_aald, o_aast, o_jald, o_jast, o_dald, o_dast, o_alen, o_castA, o_new, o_newa, o_callv, o_callvN, o_calli, o_calls, o_objinit, o_iret, o_zret, o_fret, o_dret, o_aret, o_vret, o_throw, o_acopy, o_bcopy, o_clone, o_tsw, o_ldcS, o_kval, o_kcoder, o_klen, o_kald, o_tald, o_getSq, o_callk, o_callvH, gl, stl, stl2, pre2, va_rf, Value.category, catS, List.length_cons, List.length_nil, List.map_cons, List.map_nil, List.sum_cons, List.sum_nil, List.take_succ_cons, List.take_zero, List.drop_succ_cons, List.drop_zero, List.reverse_cons, List.reverse_nil, List.nil_append, List.cons_append, true_and, and_true, if_true, Nat.reduceAdd, Nat.reduceLT, Nat.reduceLeDiff, q1, q2, q3, z0, w0]
    exact h _ 0 (by decide) (fun d2 Q2 hq => sp_mCount (mo_sJ hM') (by omega) hV (fun S2 w hMo g6 ev F2 => hq S2 w (li_mk (cr_sJ hR') hMo F2 (hB) (o_sJ hO') (by omega) (by omega) (by omega)) (g6.trans (congrArg nI hc)) (fun _ => by rw [gJ_keep (o_sJ hO') F2, gJ_at, ev hc]))) ⟨(mo_sJ hM').1.1, o_sJ hO'⟩
  · intro e
    simp only [behH]
    refine ⟨_, rfl, fun q => ?_⟩
    simp only [e_L_count_0, e_L_count_1, e_L_count_2, e_L_count_3, e_L_count_4, e_L_count_7, e_L_count_8, e_L_count_9, e_L_count_12, e_L_count_13, e_L_count_14, e_L_count_15, e_L_count_16, o_const, o_iload, o_aload, o_fload, o_dload, o_istore, o_astore, o_fstore, o_dstore, o_iinc, o_bin, o_div, o_un, o_i2l, o_i2f, o_i2d, o_f2d, o_fdiv, o_ddiv, o_lcmp, o_fcmp, o_dcmp, o_if, o_if2, o_goto, o_dup, o_dupx1, o_dup2, o_pop, o_getI, o_getR, o_putI, o_putR, o_iald, o_iast, o_bald, o_bast, o_zald, o_zast, o_aald, o_aast, o_jald, o_jast, o_dald, o_dast, o_alen, o_castA, o_new, o_newa, o_callv, o_callvN, o_calli, o_calls, o_objinit, o_iret, o_zret, o_fret, o_dret, o_aret, o_vret, o_throw, o_acopy, o_bcopy, o_clone, o_tsw, o_ldcS, o_kval, o_kcoder, o_klen, o_kald, o_tald, o_getSq, o_callk, o_callvH, gl, stl, stl2, pre2, va_rf, Value.category, catS, List.length_cons, List.length_nil, List.map_cons, List.map_nil, List.sum_cons, List.sum_nil, List.take_succ_cons, List.take_zero, List.drop_succ_cons, List.drop_zero, List.reverse_cons, List.reverse_nil, List.nil_append, List.cons_append, true_and, and_true, if_true, Nat.reduceAdd, Nat.reduceLT, Nat.reduceLeDiff]
    exact h _ 1 (by decide) (fun d2 Q2 hq => sp_mCount hMC (by omega) hV (fun S2 w hMo g6 ev F2 => hq S2 w (li_mk hRC hMo F2 hB hOC (by omega) (by omega) (by omega)) (g6.trans (congrArg nI e)) (fun z => absurd z (by decide)))) ⟨hmC, hOC⟩
theorem pr_comparator (hks : ¬ ks 11 = ks 10) (hL : LI S x m ol od ad n) (hn : n < 512) {a b : Int32} (h : ∀ S1 (k : Nat), k ≤ 3 → MdC ks n_X9_comparator [.ref m, .int a, .int b] S1 x m ol od ad (n + 1) k → MdF S1 m ol od → Q (.inl (some (.int (nI k)))) S1) : WG ks (d + 30) n_L_comparator [.ref x, .int a, .int b, .ref ol] S Q := by
  obtain ⟨M, u, v, tl, T, eA, hn', H, C, wn, Wt, s0, s1, fr, hR, hM, hB, hO, b1, b2, b3⟩ := hL
  obtain ⟨hV, hVH⟩ := cr_VC hR hB
  have hcc : u + 110 ≤ cCM ∧ v + 910000 ≤ cSM := by unfold cCM cSM; omega
  have hx := cr_x hR
  have hrm : Rm S := cr_rm (by omega) hR
  obtain ⟨st, L9, hQ⟩ := cr_q hR
  have hM9 : M ≤ 9800 := by omega
  have hm := hM.1.1
  have z0 : Int32.toNatClampNeg 0 = 0 := by decide
  have w0 : vp_in 0 1 := vp_in_nI (n := 0) (by decide) (by decide)
  have hOs := hO
  obtain ⟨⟨p1, p2, p3⟩, -⟩ := hOs
  have hMC := mo_sC hM
  have hRC := cr_sC hR
  have hOC := hO.fr (Fr.sC S 1 6)
  have hmC := hMC.1.1
  refine ⟨by simp [cat1, Value.category], by show (4 : Nat) ≤ 5; decide, ?_⟩
  show Run ks (WG ks (d + 29)) Q tb_L_comparator 0 [some (.ref x), some (.int a), some (.int b), some (.ref ol), none] [] S
  simp only [e_L_comparator_0, e_L_comparator_1, e_L_comparator_2, e_L_comparator_3, e_L_comparator_4, e_L_comparator_5, e_L_comparator_8, e_L_comparator_9, e_L_comparator_10, e_L_comparator_13, e_L_comparator_15, e_L_comparator_16, e_L_comparator_17, e_L_comparator_19, e_L_comparator_20, e_L_comparator_21, e_L_comparator_22, o_const, o_iload, o_aload, o_fload, o_dload, o_istore, o_astore, o_fstore, o_dstore, o_iinc, o_bin, o_div, o_un, o_i2l, o_i2f, o_i2d, o_f2d, o_fdiv, o_ddiv, o_lcmp, o_fcmp, o_dcmp, o_if, o_if2, o_goto, o_dup, o_dupx1, o_dup2, o_pop, o_getI, o_getR, o_putI, o_putR, o_iald, o_iast, o_bald, o_bast, o_zald, o_zast, o_aald, o_aast, o_jald, o_jast, o_dald, o_dast, o_alen, o_castA, o_new, o_newa, o_callv, o_callvN, o_calli, o_calls, o_objinit, o_iret, o_zret, o_fret, o_dret, o_aret, o_vret, o_throw, o_acopy, o_bcopy, o_clone, o_tsw, o_ldcS, o_kval, o_kcoder, o_klen, o_kald, o_tald, o_getSq, o_callk, o_callvH, gl, stl, stl2, pre2, va_rf, Value.category, catS, List.length_cons, List.length_nil, List.map_cons, List.map_nil, List.sum_cons, List.sum_nil, List.take_succ_cons, List.take_zero, List.drop_succ_cons, List.drop_zero, List.reverse_cons, List.reverse_nil, List.nil_append, List.cons_append, true_and, and_true, if_true, Nat.reduceAdd, Nat.reduceLT, Nat.reduceLeDiff, hx]
  refine ⟨⟨x, _, rfl, rfl, hx⟩, sp_comparator hrm hQ ?_ ?_ ?_⟩
  · intro hc
    have F' := Fr.rf S
    have hR' := hR
    have hM' := hM
    have hO' := hO
    have hOt := hO'
    obtain ⟨⟨q1, q2, q3⟩, -⟩ := hOt
    simp only [behH, e_L_comparator_0, e_L_comparator_1, e_L_comparator_2, e_L_comparator_3, e_L_comparator_4, e_L_comparator_5, e_L_comparator_8, e_L_comparator_9, e_L_comparator_10, e_L_comparator_13, e_L_comparator_15, e_L_comparator_16, e_L_comparator_17, e_L_comparator_19, e_L_comparator_20, e_L_comparator_21, e_L_comparator_22, o_const, o_iload, o_aload, o_fload, o_dload, o_istore, o_astore, o_fstore, o_dstore, o_iinc, o_bin, o_div, o_un, o_i2l, o_i2f, o_i2d, o_f2d, o_fdiv, o_ddiv, o_lcmp, o_fcmp, o_dcmp, o_if, o_if2, o_goto, o_dup, o_dupx1, o_dup2, o_pop, o_getI, o_getR, o_putI, o_putR, o_iald, o_iast, o_bald, o_bast, o_zald, o_zast, o_aald, o_aast, o_jald, o_jast, o_dald, o_dast, o_alen, o_castA, o_new, o_newa, o_callv, o_callvN, o_calli, o_calls, o_objinit, o_iret, o_zret, o_fret, o_dret, o_aret, o_vret, o_throw, o_acopy, o_bcopy, o_clone, o_tsw, o_ldcS, o_kval, o_kcoder, o_klen, o_kald, o_tald, o_getSq, o_callk, o_callvH, gl, stl, stl2, pre2, va_rf, Value.category, catS, List.length_cons, List.length_nil, List.map_cons, List.map_nil, List.sum_cons, List.sum_nil, List.take_succ_cons, List.take_zero, List.drop_succ_cons, List.drop_zero, List.reverse_cons, List.reverse_nil, List.nil_append, List.cons_append, true_and, and_true, if_true, Nat.reduceAdd, Nat.reduceLT, Nat.reduceLeDiff, q1, q2, q3, z0, w0]
    exact h _ 0 (by decide) (fun d2 Q2 hq => sp_mComparator (mo_sJ hM') hV (fun S2 w hMo g6 ev F2 => hq S2 w (li_mk (cr_sJ hR') hMo F2 (hB) (o_sJ hO') (by omega) (by omega) (by omega)) (g6.trans (congrArg nI hc)) (fun _ => by rw [gJ_keep (o_sJ hO') F2, gJ_at, ev hc]))) ⟨(mo_sJ hM').1.1, o_sJ hO'⟩
  · intro e
    simp only [behH]
    refine ⟨_, rfl, fun q => ?_⟩
    simp only [e_L_comparator_0, e_L_comparator_1, e_L_comparator_2, e_L_comparator_3, e_L_comparator_4, e_L_comparator_5, e_L_comparator_8, e_L_comparator_9, e_L_comparator_10, e_L_comparator_13, e_L_comparator_15, e_L_comparator_16, e_L_comparator_17, e_L_comparator_19, e_L_comparator_20, e_L_comparator_21, e_L_comparator_22, o_const, o_iload, o_aload, o_fload, o_dload, o_istore, o_astore, o_fstore, o_dstore, o_iinc, o_bin, o_div, o_un, o_i2l, o_i2f, o_i2d, o_f2d, o_fdiv, o_ddiv, o_lcmp, o_fcmp, o_dcmp, o_if, o_if2, o_goto, o_dup, o_dupx1, o_dup2, o_pop, o_getI, o_getR, o_putI, o_putR, o_iald, o_iast, o_bald, o_bast, o_zald, o_zast, o_aald, o_aast, o_jald, o_jast, o_dald, o_dast, o_alen, o_castA, o_new, o_newa, o_callv, o_callvN, o_calli, o_calls, o_objinit, o_iret, o_zret, o_fret, o_dret, o_aret, o_vret, o_throw, o_acopy, o_bcopy, o_clone, o_tsw, o_ldcS, o_kval, o_kcoder, o_klen, o_kald, o_tald, o_getSq, o_callk, o_callvH, gl, stl, stl2, pre2, va_rf, Value.category, catS, List.length_cons, List.length_nil, List.map_cons, List.map_nil, List.sum_cons, List.sum_nil, List.take_succ_cons, List.take_zero, List.drop_succ_cons, List.drop_zero, List.reverse_cons, List.reverse_nil, List.nil_append, List.cons_append, true_and, and_true, if_true, Nat.reduceAdd, Nat.reduceLT, Nat.reduceLeDiff]
    exact h _ 1 (by decide) (fun d2 Q2 hq => sp_mComparator hMC hV (fun S2 w hMo g6 ev F2 => hq S2 w (li_mk hRC hMo F2 hB hOC (by omega) (by omega) (by omega)) (g6.trans (congrArg nI e)) (fun z => absurd z (by decide)))) ⟨hmC, hOC⟩
  · intro e
    simp only [behH]
    refine ⟨_, rfl, fun q => ?_⟩
    simp only [e_L_comparator_0, e_L_comparator_1, e_L_comparator_2, e_L_comparator_3, e_L_comparator_4, e_L_comparator_5, e_L_comparator_8, e_L_comparator_9, e_L_comparator_10, e_L_comparator_13, e_L_comparator_15, e_L_comparator_16, e_L_comparator_17, e_L_comparator_19, e_L_comparator_20, e_L_comparator_21, e_L_comparator_22, o_const, o_iload, o_aload, o_fload, o_dload, o_istore, o_astore, o_fstore, o_dstore, o_iinc, o_bin, o_div, o_un, o_i2l, o_i2f, o_i2d, o_f2d, o_fdiv, o_ddiv, o_lcmp, o_fcmp, o_dcmp, o_if, o_if2, o_goto, o_dup, o_dupx1, o_dup2, o_pop, o_getI, o_getR, o_putI, o_putR, o_iald, o_iast, o_bald, o_bast, o_zald, o_zast, o_aald, o_aast, o_jald, o_jast, o_dald, o_dast, o_alen, o_castA, o_new, o_newa, o_callv, o_callvN, o_calli, o_calls, o_objinit, o_iret, o_zret, o_fret, o_dret, o_aret, o_vret, o_throw, o_acopy, o_bcopy, o_clone, o_tsw, o_ldcS, o_kval, o_kcoder, o_klen, o_kald, o_tald, o_getSq, o_callk, o_callvH, gl, stl, stl2, pre2, va_rf, Value.category, catS, List.length_cons, List.length_nil, List.map_cons, List.map_nil, List.sum_cons, List.sum_nil, List.take_succ_cons, List.take_zero, List.drop_succ_cons, List.drop_zero, List.reverse_cons, List.reverse_nil, List.nil_append, List.cons_append, true_and, and_true, if_true, Nat.reduceAdd, Nat.reduceLT, Nat.reduceLeDiff]
    exact h _ 2 (by decide) (fun d2 Q2 hq => sp_mComparator hMC hV (fun S2 w hMo g6 ev F2 => hq S2 w (li_mk hRC hMo F2 hB hOC (by omega) (by omega) (by omega)) (g6.trans (congrArg nI e)) (fun z => absurd z (by decide)))) ⟨hmC, hOC⟩
theorem pr_weight (hks : ¬ ks 11 = ks 10) (hL : LI S x m ol od ad n) (hn : n < 512) {a b : Int32} (h : ∀ S1 (k : Nat), k ≤ 3 → MdC ks n_X9_weight [.ref m, .int a, .int b] S1 x m ol od ad (n + 1) k → MdF S1 m ol od → Q (.inl (some (.int (nI k)))) S1) : WG ks (d + 30) n_L_weight [.ref x, .int a, .int b, .ref ol] S Q := by
  obtain ⟨M, u, v, tl, T, eA, hn', H, C, wn, Wt, s0, s1, fr, hR, hM, hB, hO, b1, b2, b3⟩ := hL
  obtain ⟨hV, hVH⟩ := cr_VC hR hB
  have hcc : u + 110 ≤ cCM ∧ v + 910000 ≤ cSM := by unfold cCM cSM; omega
  have hx := cr_x hR
  have hrm : Rm S := cr_rm (by omega) hR
  obtain ⟨st, L9, hQ⟩ := cr_q hR
  have hM9 : M ≤ 9800 := by omega
  have hm := hM.1.1
  have z0 : Int32.toNatClampNeg 0 = 0 := by decide
  have w0 : vp_in 0 1 := vp_in_nI (n := 0) (by decide) (by decide)
  have hOs := hO
  obtain ⟨⟨p1, p2, p3⟩, -⟩ := hOs
  have hMC := mo_sC hM
  have hRC := cr_sC hR
  have hOC := hO.fr (Fr.sC S 1 6)
  have hmC := hMC.1.1
  refine ⟨by simp [cat1, Value.category], by show (4 : Nat) ≤ 5; decide, ?_⟩
  show Run ks (WG ks (d + 29)) Q tb_L_weight 0 [some (.ref x), some (.int a), some (.int b), some (.ref ol), none] [] S
  simp only [e_L_weight_0, e_L_weight_1, e_L_weight_2, e_L_weight_3, e_L_weight_4, e_L_weight_5, e_L_weight_8, e_L_weight_9, e_L_weight_10, e_L_weight_13, e_L_weight_15, e_L_weight_16, e_L_weight_17, e_L_weight_19, e_L_weight_20, e_L_weight_21, e_L_weight_22, o_const, o_iload, o_aload, o_fload, o_dload, o_istore, o_astore, o_fstore, o_dstore, o_iinc, o_bin, o_div, o_un, o_i2l, o_i2f, o_i2d, o_f2d, o_fdiv, o_ddiv, o_lcmp, o_fcmp, o_dcmp, o_if, o_if2, o_goto, o_dup, o_dupx1, o_dup2, o_pop, o_getI, o_getR, o_putI, o_putR, o_iald, o_iast, o_bald, o_bast, o_zald, o_zast, o_aald, o_aast, o_jald, o_jast, o_dald, o_dast, o_alen, o_castA, o_new, o_newa, o_callv, o_callvN, o_calli, o_calls, o_objinit, o_iret, o_zret, o_fret, o_dret, o_aret, o_vret, o_throw, o_acopy, o_bcopy, o_clone, o_tsw, o_ldcS, o_kval, o_kcoder, o_klen, o_kald, o_tald, o_getSq, o_callk, o_callvH, gl, stl, stl2, pre2, va_rf, Value.category, catS, List.length_cons, List.length_nil, List.map_cons, List.map_nil, List.sum_cons, List.sum_nil, List.take_succ_cons, List.take_zero, List.drop_succ_cons, List.drop_zero, List.reverse_cons, List.reverse_nil, List.nil_append, List.cons_append, true_and, and_true, if_true, Nat.reduceAdd, Nat.reduceLT, Nat.reduceLeDiff, hx]
  refine ⟨⟨x, _, rfl, rfl, hx⟩, sp_weight hrm hQ ?_ ?_ ?_⟩
  · intro hc
    have F' := Fr.rf S
    have hR' := hR
    have hM' := hM
    have hO' := hO
    have hOt := hO'
    obtain ⟨⟨q1, q2, q3⟩, -⟩ := hOt
    simp only [behH, e_L_weight_0, e_L_weight_1, e_L_weight_2, e_L_weight_3, e_L_weight_4, e_L_weight_5, e_L_weight_8, e_L_weight_9, e_L_weight_10, e_L_weight_13, e_L_weight_15, e_L_weight_16, e_L_weight_17, e_L_weight_19, e_L_weight_20, e_L_weight_21, e_L_weight_22, o_const, o_iload, o_aload, o_fload, o_dload, o_istore, o_astore, o_fstore, o_dstore, o_iinc, o_bin, o_div, o_un, o_i2l, o_i2f, o_i2d, o_f2d, o_fdiv, o_ddiv, o_lcmp, o_fcmp, o_dcmp, o_if, o_if2, o_goto, o_dup, o_dupx1, o_dup2, o_pop, o_getI, o_getR, o_putI, o_putR, o_iald, o_iast, o_bald, o_bast, o_zald, o_zast, o_aald, o_aast, o_jald, o_jast, o_dald, o_dast, o_alen, o_castA, o_new, o_newa, o_callv, o_callvN, o_calli, o_calls, o_objinit, o_iret, o_zret, o_fret, o_dret, o_aret, o_vret, o_throw, o_acopy, o_bcopy, o_clone, o_tsw, o_ldcS, o_kval, o_kcoder, o_klen, o_kald, o_tald, o_getSq, o_callk, o_callvH, gl, stl, stl2, pre2, va_rf, Value.category, catS, List.length_cons, List.length_nil, List.map_cons, List.map_nil, List.sum_cons, List.sum_nil, List.take_succ_cons, List.take_zero, List.drop_succ_cons, List.drop_zero, List.reverse_cons, List.reverse_nil, List.nil_append, List.cons_append, true_and, and_true, if_true, Nat.reduceAdd, Nat.reduceLT, Nat.reduceLeDiff, q1, q2, q3, z0, w0]
    exact h _ 0 (by decide) (fun d2 Q2 hq => sp_mWeightC (mo_sJ hM') hV (fun S2 w hMo g6 ev F2 => hq S2 w (li_mk (cr_sJ hR') hMo F2 (hB) (o_sJ hO') (by omega) (by omega) (by omega)) (g6.trans (congrArg nI hc)) (fun _ => by rw [gJ_keep (o_sJ hO') F2, gJ_at, ev hc]))) ⟨(mo_sJ hM').1.1, o_sJ hO'⟩
  · intro e
    simp only [behH]
    refine ⟨_, rfl, fun q => ?_⟩
    simp only [e_L_weight_0, e_L_weight_1, e_L_weight_2, e_L_weight_3, e_L_weight_4, e_L_weight_5, e_L_weight_8, e_L_weight_9, e_L_weight_10, e_L_weight_13, e_L_weight_15, e_L_weight_16, e_L_weight_17, e_L_weight_19, e_L_weight_20, e_L_weight_21, e_L_weight_22, o_const, o_iload, o_aload, o_fload, o_dload, o_istore, o_astore, o_fstore, o_dstore, o_iinc, o_bin, o_div, o_un, o_i2l, o_i2f, o_i2d, o_f2d, o_fdiv, o_ddiv, o_lcmp, o_fcmp, o_dcmp, o_if, o_if2, o_goto, o_dup, o_dupx1, o_dup2, o_pop, o_getI, o_getR, o_putI, o_putR, o_iald, o_iast, o_bald, o_bast, o_zald, o_zast, o_aald, o_aast, o_jald, o_jast, o_dald, o_dast, o_alen, o_castA, o_new, o_newa, o_callv, o_callvN, o_calli, o_calls, o_objinit, o_iret, o_zret, o_fret, o_dret, o_aret, o_vret, o_throw, o_acopy, o_bcopy, o_clone, o_tsw, o_ldcS, o_kval, o_kcoder, o_klen, o_kald, o_tald, o_getSq, o_callk, o_callvH, gl, stl, stl2, pre2, va_rf, Value.category, catS, List.length_cons, List.length_nil, List.map_cons, List.map_nil, List.sum_cons, List.sum_nil, List.take_succ_cons, List.take_zero, List.drop_succ_cons, List.drop_zero, List.reverse_cons, List.reverse_nil, List.nil_append, List.cons_append, true_and, and_true, if_true, Nat.reduceAdd, Nat.reduceLT, Nat.reduceLeDiff]
    exact h _ 1 (by decide) (fun d2 Q2 hq => sp_mWeightC hMC hV (fun S2 w hMo g6 ev F2 => hq S2 w (li_mk hRC hMo F2 hB hOC (by omega) (by omega) (by omega)) (g6.trans (congrArg nI e)) (fun z => absurd z (by decide)))) ⟨hmC, hOC⟩
  · intro e
    simp only [behH]
    refine ⟨_, rfl, fun q => ?_⟩
    simp only [e_L_weight_0, e_L_weight_1, e_L_weight_2, e_L_weight_3, e_L_weight_4, e_L_weight_5, e_L_weight_8, e_L_weight_9, e_L_weight_10, e_L_weight_13, e_L_weight_15, e_L_weight_16, e_L_weight_17, e_L_weight_19, e_L_weight_20, e_L_weight_21, e_L_weight_22, o_const, o_iload, o_aload, o_fload, o_dload, o_istore, o_astore, o_fstore, o_dstore, o_iinc, o_bin, o_div, o_un, o_i2l, o_i2f, o_i2d, o_f2d, o_fdiv, o_ddiv, o_lcmp, o_fcmp, o_dcmp, o_if, o_if2, o_goto, o_dup, o_dupx1, o_dup2, o_pop, o_getI, o_getR, o_putI, o_putR, o_iald, o_iast, o_bald, o_bast, o_zald, o_zast, o_aald, o_aast, o_jald, o_jast, o_dald, o_dast, o_alen, o_castA, o_new, o_newa, o_callv, o_callvN, o_calli, o_calls, o_objinit, o_iret, o_zret, o_fret, o_dret, o_aret, o_vret, o_throw, o_acopy, o_bcopy, o_clone, o_tsw, o_ldcS, o_kval, o_kcoder, o_klen, o_kald, o_tald, o_getSq, o_callk, o_callvH, gl, stl, stl2, pre2, va_rf, Value.category, catS, List.length_cons, List.length_nil, List.map_cons, List.map_nil, List.sum_cons, List.sum_nil, List.take_succ_cons, List.take_zero, List.drop_succ_cons, List.drop_zero, List.reverse_cons, List.reverse_nil, List.nil_append, List.cons_append, true_and, and_true, if_true, Nat.reduceAdd, Nat.reduceLT, Nat.reduceLeDiff]
    exact h _ 2 (by decide) (fun d2 Q2 hq => sp_mWeightC hMC hV (fun S2 w hMo g6 ev F2 => hq S2 w (li_mk hRC hMo F2 hB hOC (by omega) (by omega) (by omega)) (g6.trans (congrArg nI e)) (fun z => absurd z (by decide)))) ⟨hmC, hOC⟩
theorem pr_quiet (hks : ¬ ks 11 = ks 10) (hL : LI S x m ol od ad n) (hn : n < 512) {a : Int32} (h : ∀ S1 (k : Nat), k ≤ 3 → MdC ks n_X9_quiet [.ref m, .int a] S1 x m ol od ad (n + 1) k → MdF S1 m ol od → Q (.inl (some (.int (nI k)))) S1) : WG ks (d + 30) n_L_quiet [.ref x, .int a, .ref ol] S Q := by
  obtain ⟨M, u, v, tl, T, eA, hn', H, C, wn, Wt, s0, s1, fr, hR, hM, hB, hO, b1, b2, b3⟩ := hL
  obtain ⟨hV, hVH⟩ := cr_VC hR hB
  have hcc : u + 110 ≤ cCM ∧ v + 910000 ≤ cSM := by unfold cCM cSM; omega
  have hx := cr_x hR
  have hrm : Rm S := cr_rm (by omega) hR
  obtain ⟨st, L9, hQ⟩ := cr_q hR
  have hM9 : M ≤ 9800 := by omega
  have hm := hM.1.1
  have z0 : Int32.toNatClampNeg 0 = 0 := by decide
  have w0 : vp_in 0 1 := vp_in_nI (n := 0) (by decide) (by decide)
  have hOs := hO
  obtain ⟨⟨p1, p2, p3⟩, -⟩ := hOs
  have hMC := mo_sC hM
  have hRC := cr_sC hR
  have hOC := hO.fr (Fr.sC S 1 6)
  have hmC := hMC.1.1
  refine ⟨by simp [cat1, Value.category], by show (3 : Nat) ≤ 4; decide, ?_⟩
  show Run ks (WG ks (d + 29)) Q tb_L_quiet 0 [some (.ref x), some (.int a), some (.ref ol), none] [] S
  simp only [e_L_quiet_0, e_L_quiet_1, e_L_quiet_2, e_L_quiet_3, e_L_quiet_4, e_L_quiet_7, e_L_quiet_8, e_L_quiet_9, e_L_quiet_12, e_L_quiet_13, e_L_quiet_14, e_L_quiet_15, e_L_quiet_16, o_const, o_iload, o_aload, o_fload, o_dload, o_istore, o_astore, o_fstore, o_dstore, o_iinc, o_bin, o_div, o_un, o_i2l, o_i2f, o_i2d, o_f2d, o_fdiv, o_ddiv, o_lcmp, o_fcmp, o_dcmp, o_if, o_if2, o_goto, o_dup, o_dupx1, o_dup2, o_pop, o_getI, o_getR, o_putI, o_putR, o_iald, o_iast, o_bald, o_bast, o_zald, o_zast, o_aald, o_aast, o_jald, o_jast, o_dald, o_dast, o_alen, o_castA, o_new, o_newa, o_callv, o_callvN, o_calli, o_calls, o_objinit, o_iret, o_zret, o_fret, o_dret, o_aret, o_vret, o_throw, o_acopy, o_bcopy, o_clone, o_tsw, o_ldcS, o_kval, o_kcoder, o_klen, o_kald, o_tald, o_getSq, o_callk, o_callvH, gl, stl, stl2, pre2, va_rf, Value.category, catS, List.length_cons, List.length_nil, List.map_cons, List.map_nil, List.sum_cons, List.sum_nil, List.take_succ_cons, List.take_zero, List.drop_succ_cons, List.drop_zero, List.reverse_cons, List.reverse_nil, List.nil_append, List.cons_append, true_and, and_true, if_true, Nat.reduceAdd, Nat.reduceLT, Nat.reduceLeDiff, hx]
  refine ⟨⟨x, _, rfl, rfl, hx⟩, sp_quiet hrm hQ ?_ ?_⟩
  · intro hc
    have F' := Fr.rf S
    have hR' := hR
    have hM' := hM
    have hO' := hO
    have hOt := hO'
    obtain ⟨⟨q1, q2, q3⟩, -⟩ := hOt
    simp only [behH, e_L_quiet_0, e_L_quiet_1, e_L_quiet_2, e_L_quiet_3, e_L_quiet_4, e_L_quiet_7, e_L_quiet_8, e_L_quiet_9, e_L_quiet_12, e_L_quiet_13, e_L_quiet_14, e_L_quiet_15, e_L_quiet_16, o_const, o_iload, o_aload, o_fload, o_dload, o_istore, o_astore, o_fstore, o_dstore, o_iinc, o_bin, o_div, o_un, o_i2l, o_i2f, o_i2d, o_f2d, o_fdiv, o_ddiv, o_lcmp, o_fcmp, o_dcmp, o_if, o_if2, o_goto, o_dup, o_dupx1, o_dup2, o_pop, o_getI, o_getR, o_putI, o_putR, o_iald, o_iast, o_bald, o_bast, o_zald, o_zast, o_aald, o_aast, o_jald, o_jast, o_dald, o_dast, o_alen, o_castA, o_new, o_newa, o_callv, o_callvN, o_calli, o_calls, o_objinit, o_iret, o_zret, o_fret, o_dret, o_aret, o_vret, o_throw, o_acopy, o_bcopy, o_clone, o_tsw, o_ldcS, o_kval, o_kcoder, o_klen, o_kald, o_tald, o_getSq, o_callk, o_callvH, gl, stl, stl2, pre2, va_rf, Value.category, catS, List.length_cons, List.length_nil, List.map_cons, List.map_nil, List.sum_cons, List.sum_nil, List.take_succ_cons, List.take_zero, List.drop_succ_cons, List.drop_zero, List.reverse_cons, List.reverse_nil, List.nil_append, List.cons_append, true_and, and_true, if_true, Nat.reduceAdd, Nat.reduceLT, Nat.reduceLeDiff, q1, q2, q3, z0, w0]
    exact h _ 0 (by decide) (fun d2 Q2 hq => sp_mQuietC (mo_sJ hM') hV (fun S2 w hMo g6 ev F2 => hq S2 w (li_mk (cr_sJ hR') hMo F2 (hB) (o_sJ hO') (by omega) (by omega) (by omega)) (g6.trans (congrArg nI hc)) (fun _ => by rw [gJ_keep (o_sJ hO') F2, gJ_at, ev hc]))) ⟨(mo_sJ hM').1.1, o_sJ hO'⟩
  · intro e
    simp only [behH]
    refine ⟨_, rfl, fun q => ?_⟩
    simp only [e_L_quiet_0, e_L_quiet_1, e_L_quiet_2, e_L_quiet_3, e_L_quiet_4, e_L_quiet_7, e_L_quiet_8, e_L_quiet_9, e_L_quiet_12, e_L_quiet_13, e_L_quiet_14, e_L_quiet_15, e_L_quiet_16, o_const, o_iload, o_aload, o_fload, o_dload, o_istore, o_astore, o_fstore, o_dstore, o_iinc, o_bin, o_div, o_un, o_i2l, o_i2f, o_i2d, o_f2d, o_fdiv, o_ddiv, o_lcmp, o_fcmp, o_dcmp, o_if, o_if2, o_goto, o_dup, o_dupx1, o_dup2, o_pop, o_getI, o_getR, o_putI, o_putR, o_iald, o_iast, o_bald, o_bast, o_zald, o_zast, o_aald, o_aast, o_jald, o_jast, o_dald, o_dast, o_alen, o_castA, o_new, o_newa, o_callv, o_callvN, o_calli, o_calls, o_objinit, o_iret, o_zret, o_fret, o_dret, o_aret, o_vret, o_throw, o_acopy, o_bcopy, o_clone, o_tsw, o_ldcS, o_kval, o_kcoder, o_klen, o_kald, o_tald, o_getSq, o_callk, o_callvH, gl, stl, stl2, pre2, va_rf, Value.category, catS, List.length_cons, List.length_nil, List.map_cons, List.map_nil, List.sum_cons, List.sum_nil, List.take_succ_cons, List.take_zero, List.drop_succ_cons, List.drop_zero, List.reverse_cons, List.reverse_nil, List.nil_append, List.cons_append, true_and, and_true, if_true, Nat.reduceAdd, Nat.reduceLT, Nat.reduceLeDiff]
    exact h _ 1 (by decide) (fun d2 Q2 hq => sp_mQuietC hMC hV (fun S2 w hMo g6 ev F2 => hq S2 w (li_mk hRC hMo F2 hB hOC (by omega) (by omega) (by omega)) (g6.trans (congrArg nI e)) (fun z => absurd z (by decide)))) ⟨hmC, hOC⟩
theorem pr_conversion (hks : ¬ ks 11 = ks 10) (hL : LI S x m ol od ad n) (hn : n < 512) {a b : Int32} (h : ∀ S1 (k : Nat), k ≤ 3 → MdC ks n_X9_conversion [.ref m, .int a, .int b] S1 x m ol od ad (n + 1) k → MdF S1 m ol od → Q (.inl (some (.int (nI k)))) S1) : WG ks (d + 30) n_L_conversion [.ref x, .int a, .int b, .ref ol] S Q := by
  obtain ⟨M, u, v, tl, T, eA, hn', H, C, wn, Wt, s0, s1, fr, hR, hM, hB, hO, b1, b2, b3⟩ := hL
  obtain ⟨hV, hVH⟩ := cr_VC hR hB
  have hcc : u + 110 ≤ cCM ∧ v + 910000 ≤ cSM := by unfold cCM cSM; omega
  have hx := cr_x hR
  have hrm : Rm S := cr_rm (by omega) hR
  obtain ⟨st, L9, hQ⟩ := cr_q hR
  have hM9 : M ≤ 9800 := by omega
  have hm := hM.1.1
  have z0 : Int32.toNatClampNeg 0 = 0 := by decide
  have w0 : vp_in 0 1 := vp_in_nI (n := 0) (by decide) (by decide)
  have hOs := hO
  obtain ⟨⟨p1, p2, p3⟩, -⟩ := hOs
  have hMC := mo_sC hM
  have hRC := cr_sC hR
  have hOC := hO.fr (Fr.sC S 1 6)
  have hmC := hMC.1.1
  refine ⟨by simp [cat1, Value.category], by show (4 : Nat) ≤ 5; decide, ?_⟩
  show Run ks (WG ks (d + 29)) Q tb_L_conversion 0 [some (.ref x), some (.int a), some (.int b), some (.ref ol), none] [] S
  simp only [e_L_conversion_0, e_L_conversion_1, e_L_conversion_2, e_L_conversion_3, e_L_conversion_4, e_L_conversion_5, e_L_conversion_8, e_L_conversion_9, e_L_conversion_10, e_L_conversion_13, e_L_conversion_15, e_L_conversion_16, e_L_conversion_17, e_L_conversion_19, e_L_conversion_20, e_L_conversion_21, e_L_conversion_22, o_const, o_iload, o_aload, o_fload, o_dload, o_istore, o_astore, o_fstore, o_dstore, o_iinc, o_bin, o_div, o_un, o_i2l, o_i2f, o_i2d, o_f2d, o_fdiv, o_ddiv, o_lcmp, o_fcmp, o_dcmp, o_if, o_if2, o_goto, o_dup, o_dupx1, o_dup2, o_pop, o_getI, o_getR, o_putI, o_putR, o_iald, o_iast, o_bald, o_bast, o_zald, o_zast, o_aald, o_aast, o_jald, o_jast, o_dald, o_dast, o_alen, o_castA, o_new, o_newa, o_callv, o_callvN, o_calli, o_calls, o_objinit, o_iret, o_zret, o_fret, o_dret, o_aret, o_vret, o_throw, o_acopy, o_bcopy, o_clone, o_tsw, o_ldcS, o_kval, o_kcoder, o_klen, o_kald, o_tald, o_getSq, o_callk, o_callvH, gl, stl, stl2, pre2, va_rf, Value.category, catS, List.length_cons, List.length_nil, List.map_cons, List.map_nil, List.sum_cons, List.sum_nil, List.take_succ_cons, List.take_zero, List.drop_succ_cons, List.drop_zero, List.reverse_cons, List.reverse_nil, List.nil_append, List.cons_append, true_and, and_true, if_true, Nat.reduceAdd, Nat.reduceLT, Nat.reduceLeDiff, hx]
  refine ⟨⟨x, _, rfl, rfl, hx⟩, sp_conversion hrm hQ ?_ ?_ ?_⟩
  · intro hc
    have F' := Fr.rf S
    have hR' := hR
    have hM' := hM
    have hO' := hO
    have hOt := hO'
    obtain ⟨⟨q1, q2, q3⟩, -⟩ := hOt
    simp only [behH, e_L_conversion_0, e_L_conversion_1, e_L_conversion_2, e_L_conversion_3, e_L_conversion_4, e_L_conversion_5, e_L_conversion_8, e_L_conversion_9, e_L_conversion_10, e_L_conversion_13, e_L_conversion_15, e_L_conversion_16, e_L_conversion_17, e_L_conversion_19, e_L_conversion_20, e_L_conversion_21, e_L_conversion_22, o_const, o_iload, o_aload, o_fload, o_dload, o_istore, o_astore, o_fstore, o_dstore, o_iinc, o_bin, o_div, o_un, o_i2l, o_i2f, o_i2d, o_f2d, o_fdiv, o_ddiv, o_lcmp, o_fcmp, o_dcmp, o_if, o_if2, o_goto, o_dup, o_dupx1, o_dup2, o_pop, o_getI, o_getR, o_putI, o_putR, o_iald, o_iast, o_bald, o_bast, o_zald, o_zast, o_aald, o_aast, o_jald, o_jast, o_dald, o_dast, o_alen, o_castA, o_new, o_newa, o_callv, o_callvN, o_calli, o_calls, o_objinit, o_iret, o_zret, o_fret, o_dret, o_aret, o_vret, o_throw, o_acopy, o_bcopy, o_clone, o_tsw, o_ldcS, o_kval, o_kcoder, o_klen, o_kald, o_tald, o_getSq, o_callk, o_callvH, gl, stl, stl2, pre2, va_rf, Value.category, catS, List.length_cons, List.length_nil, List.map_cons, List.map_nil, List.sum_cons, List.sum_nil, List.take_succ_cons, List.take_zero, List.drop_succ_cons, List.drop_zero, List.reverse_cons, List.reverse_nil, List.nil_append, List.cons_append, true_and, and_true, if_true, Nat.reduceAdd, Nat.reduceLT, Nat.reduceLeDiff, q1, q2, q3, z0, w0]
    exact h _ 0 (by decide) (fun d2 Q2 hq => sp_mConversion (mo_sJ hM') hV (fun S2 w hMo g6 ev F2 => hq S2 w (li_mk (cr_sJ hR') hMo F2 (hB) (o_sJ hO') (by omega) (by omega) (by omega)) (g6.trans (congrArg nI hc)) (fun _ => by rw [gJ_keep (o_sJ hO') F2, gJ_at, ev hc]))) ⟨(mo_sJ hM').1.1, o_sJ hO'⟩
  · intro e
    simp only [behH]
    refine ⟨_, rfl, fun q => ?_⟩
    simp only [e_L_conversion_0, e_L_conversion_1, e_L_conversion_2, e_L_conversion_3, e_L_conversion_4, e_L_conversion_5, e_L_conversion_8, e_L_conversion_9, e_L_conversion_10, e_L_conversion_13, e_L_conversion_15, e_L_conversion_16, e_L_conversion_17, e_L_conversion_19, e_L_conversion_20, e_L_conversion_21, e_L_conversion_22, o_const, o_iload, o_aload, o_fload, o_dload, o_istore, o_astore, o_fstore, o_dstore, o_iinc, o_bin, o_div, o_un, o_i2l, o_i2f, o_i2d, o_f2d, o_fdiv, o_ddiv, o_lcmp, o_fcmp, o_dcmp, o_if, o_if2, o_goto, o_dup, o_dupx1, o_dup2, o_pop, o_getI, o_getR, o_putI, o_putR, o_iald, o_iast, o_bald, o_bast, o_zald, o_zast, o_aald, o_aast, o_jald, o_jast, o_dald, o_dast, o_alen, o_castA, o_new, o_newa, o_callv, o_callvN, o_calli, o_calls, o_objinit, o_iret, o_zret, o_fret, o_dret, o_aret, o_vret, o_throw, o_acopy, o_bcopy, o_clone, o_tsw, o_ldcS, o_kval, o_kcoder, o_klen, o_kald, o_tald, o_getSq, o_callk, o_callvH, gl, stl, stl2, pre2, va_rf, Value.category, catS, List.length_cons, List.length_nil, List.map_cons, List.map_nil, List.sum_cons, List.sum_nil, List.take_succ_cons, List.take_zero, List.drop_succ_cons, List.drop_zero, List.reverse_cons, List.reverse_nil, List.nil_append, List.cons_append, true_and, and_true, if_true, Nat.reduceAdd, Nat.reduceLT, Nat.reduceLeDiff]
    exact h _ 1 (by decide) (fun d2 Q2 hq => sp_mConversion hMC hV (fun S2 w hMo g6 ev F2 => hq S2 w (li_mk hRC hMo F2 hB hOC (by omega) (by omega) (by omega)) (g6.trans (congrArg nI e)) (fun z => absurd z (by decide)))) ⟨hmC, hOC⟩
  · intro e
    simp only [behH]
    refine ⟨_, rfl, fun q => ?_⟩
    simp only [e_L_conversion_0, e_L_conversion_1, e_L_conversion_2, e_L_conversion_3, e_L_conversion_4, e_L_conversion_5, e_L_conversion_8, e_L_conversion_9, e_L_conversion_10, e_L_conversion_13, e_L_conversion_15, e_L_conversion_16, e_L_conversion_17, e_L_conversion_19, e_L_conversion_20, e_L_conversion_21, e_L_conversion_22, o_const, o_iload, o_aload, o_fload, o_dload, o_istore, o_astore, o_fstore, o_dstore, o_iinc, o_bin, o_div, o_un, o_i2l, o_i2f, o_i2d, o_f2d, o_fdiv, o_ddiv, o_lcmp, o_fcmp, o_dcmp, o_if, o_if2, o_goto, o_dup, o_dupx1, o_dup2, o_pop, o_getI, o_getR, o_putI, o_putR, o_iald, o_iast, o_bald, o_bast, o_zald, o_zast, o_aald, o_aast, o_jald, o_jast, o_dald, o_dast, o_alen, o_castA, o_new, o_newa, o_callv, o_callvN, o_calli, o_calls, o_objinit, o_iret, o_zret, o_fret, o_dret, o_aret, o_vret, o_throw, o_acopy, o_bcopy, o_clone, o_tsw, o_ldcS, o_kval, o_kcoder, o_klen, o_kald, o_tald, o_getSq, o_callk, o_callvH, gl, stl, stl2, pre2, va_rf, Value.category, catS, List.length_cons, List.length_nil, List.map_cons, List.map_nil, List.sum_cons, List.sum_nil, List.take_succ_cons, List.take_zero, List.drop_succ_cons, List.drop_zero, List.reverse_cons, List.reverse_nil, List.nil_append, List.cons_append, true_and, and_true, if_true, Nat.reduceAdd, Nat.reduceLT, Nat.reduceLeDiff]
    exact h _ 2 (by decide) (fun d2 Q2 hq => sp_mConversion hMC hV (fun S2 w hMo g6 ev F2 => hq S2 w (li_mk hRC hMo F2 hB hOC (by omega) (by omega) (by omega)) (g6.trans (congrArg nI e)) (fun z => absurd z (by decide)))) ⟨hmC, hOC⟩
theorem pr_trial (hks : ¬ ks 11 = ks 10) (hL : LI S x m ol od ad n) (hn : n < 512) {a b c : Int32} (h : ∀ S1 (k : Nat), k ≤ 3 → MdC ks n_X9_trial [.ref m, .int a, .int b, .int c] S1 x m ol od ad (n + 1) k → MdF S1 m ol od → Q (.inl (some (.int (nI k)))) S1) : WG ks (d + 30) n_L_trial [.ref x, .int a, .int b, .int c, .ref ol] S Q := by
  obtain ⟨M, u, v, tl, T, eA, hn', H, C, wn, Wt, s0, s1, fr, hR, hM, hB, hO, b1, b2, b3⟩ := hL
  obtain ⟨hV, hVH⟩ := cr_VC hR hB
  have hcc : u + 110 ≤ cCM ∧ v + 910000 ≤ cSM := by unfold cCM cSM; omega
  have hx := cr_x hR
  have hrm : Rm S := cr_rm (by omega) hR
  obtain ⟨st, L9, hQ⟩ := cr_q hR
  have hM9 : M ≤ 9800 := by omega
  have hm := hM.1.1
  have z0 : Int32.toNatClampNeg 0 = 0 := by decide
  have w0 : vp_in 0 1 := vp_in_nI (n := 0) (by decide) (by decide)
  have hOs := hO
  obtain ⟨⟨p1, p2, p3⟩, -⟩ := hOs
  have hMC := mo_sC hM
  have hRC := cr_sC hR
  have hOC := hO.fr (Fr.sC S 1 6)
  have hmC := hMC.1.1
  refine ⟨by simp [cat1, Value.category], by show (5 : Nat) ≤ 6; decide, ?_⟩
  show Run ks (WG ks (d + 29)) Q tb_L_trial 0 [some (.ref x), some (.int a), some (.int b), some (.int c), some (.ref ol), none] [] S
  simp only [e_L_trial_0, e_L_trial_2, e_L_trial_3, e_L_trial_4, e_L_trial_5, e_L_trial_6, e_L_trial_7, e_L_trial_10, e_L_trial_11, e_L_trial_12, e_L_trial_15, e_L_trial_17, e_L_trial_18, e_L_trial_19, e_L_trial_21, e_L_trial_22, e_L_trial_23, e_L_trial_24, o_const, o_iload, o_aload, o_fload, o_dload, o_istore, o_astore, o_fstore, o_dstore, o_iinc, o_bin, o_div, o_un, o_i2l, o_i2f, o_i2d, o_f2d, o_fdiv, o_ddiv, o_lcmp, o_fcmp, o_dcmp, o_if, o_if2, o_goto, o_dup, o_dupx1, o_dup2, o_pop, o_getI, o_getR, o_putI, o_putR, o_iald, o_iast, o_bald, o_bast, o_zald, o_zast, o_aald, o_aast, o_jald, o_jast, o_dald, o_dast, o_alen, o_castA, o_new, o_newa, o_callv, o_callvN, o_calli, o_calls, o_objinit, o_iret, o_zret, o_fret, o_dret, o_aret, o_vret, o_throw, o_acopy, o_bcopy, o_clone, o_tsw, o_ldcS, o_kval, o_kcoder, o_klen, o_kald, o_tald, o_getSq, o_callk, o_callvH, gl, stl, stl2, pre2, va_rf, Value.category, catS, List.length_cons, List.length_nil, List.map_cons, List.map_nil, List.sum_cons, List.sum_nil, List.take_succ_cons, List.take_zero, List.drop_succ_cons, List.drop_zero, List.reverse_cons, List.reverse_nil, List.nil_append, List.cons_append, true_and, and_true, if_true, Nat.reduceAdd, Nat.reduceLT, Nat.reduceLeDiff, hx]
  refine ⟨⟨x, _, rfl, rfl, hx⟩, sp_trial hrm hQ ?_ ?_ ?_⟩
  · intro hc
    have F' := Fr.rf S
    have hR' := hR
    have hM' := hM
    have hO' := hO
    have hOt := hO'
    obtain ⟨⟨q1, q2, q3⟩, -⟩ := hOt
    simp only [behH, e_L_trial_0, e_L_trial_2, e_L_trial_3, e_L_trial_4, e_L_trial_5, e_L_trial_6, e_L_trial_7, e_L_trial_10, e_L_trial_11, e_L_trial_12, e_L_trial_15, e_L_trial_17, e_L_trial_18, e_L_trial_19, e_L_trial_21, e_L_trial_22, e_L_trial_23, e_L_trial_24, o_const, o_iload, o_aload, o_fload, o_dload, o_istore, o_astore, o_fstore, o_dstore, o_iinc, o_bin, o_div, o_un, o_i2l, o_i2f, o_i2d, o_f2d, o_fdiv, o_ddiv, o_lcmp, o_fcmp, o_dcmp, o_if, o_if2, o_goto, o_dup, o_dupx1, o_dup2, o_pop, o_getI, o_getR, o_putI, o_putR, o_iald, o_iast, o_bald, o_bast, o_zald, o_zast, o_aald, o_aast, o_jald, o_jast, o_dald, o_dast, o_alen, o_castA, o_new, o_newa, o_callv, o_callvN, o_calli, o_calls, o_objinit, o_iret, o_zret, o_fret, o_dret, o_aret, o_vret, o_throw, o_acopy, o_bcopy, o_clone, o_tsw, o_ldcS, o_kval, o_kcoder, o_klen, o_kald, o_tald, o_getSq, o_callk, o_callvH, gl, stl, stl2, pre2, va_rf, Value.category, catS, List.length_cons, List.length_nil, List.map_cons, List.map_nil, List.sum_cons, List.sum_nil, List.take_succ_cons, List.take_zero, List.drop_succ_cons, List.drop_zero, List.reverse_cons, List.reverse_nil, List.nil_append, List.cons_append, true_and, and_true, if_true, Nat.reduceAdd, Nat.reduceLT, Nat.reduceLeDiff, q1, q2, q3, z0, w0]
    exact h _ 0 (by decide) (fun d2 Q2 hq => sp_mTrial (mo_sJ hM') hV (fun S2 w hMo g6 ev F2 => hq S2 w (li_mk (cr_sJ hR') hMo F2 (hB) (o_sJ hO') (by omega) (by omega) (by omega)) (g6.trans (congrArg nI hc)) (fun _ => by rw [gJ_keep (o_sJ hO') F2, gJ_at, ev hc]))) ⟨(mo_sJ hM').1.1, o_sJ hO'⟩
  · intro e
    simp only [behH]
    refine ⟨_, rfl, fun q => ?_⟩
    simp only [e_L_trial_0, e_L_trial_2, e_L_trial_3, e_L_trial_4, e_L_trial_5, e_L_trial_6, e_L_trial_7, e_L_trial_10, e_L_trial_11, e_L_trial_12, e_L_trial_15, e_L_trial_17, e_L_trial_18, e_L_trial_19, e_L_trial_21, e_L_trial_22, e_L_trial_23, e_L_trial_24, o_const, o_iload, o_aload, o_fload, o_dload, o_istore, o_astore, o_fstore, o_dstore, o_iinc, o_bin, o_div, o_un, o_i2l, o_i2f, o_i2d, o_f2d, o_fdiv, o_ddiv, o_lcmp, o_fcmp, o_dcmp, o_if, o_if2, o_goto, o_dup, o_dupx1, o_dup2, o_pop, o_getI, o_getR, o_putI, o_putR, o_iald, o_iast, o_bald, o_bast, o_zald, o_zast, o_aald, o_aast, o_jald, o_jast, o_dald, o_dast, o_alen, o_castA, o_new, o_newa, o_callv, o_callvN, o_calli, o_calls, o_objinit, o_iret, o_zret, o_fret, o_dret, o_aret, o_vret, o_throw, o_acopy, o_bcopy, o_clone, o_tsw, o_ldcS, o_kval, o_kcoder, o_klen, o_kald, o_tald, o_getSq, o_callk, o_callvH, gl, stl, stl2, pre2, va_rf, Value.category, catS, List.length_cons, List.length_nil, List.map_cons, List.map_nil, List.sum_cons, List.sum_nil, List.take_succ_cons, List.take_zero, List.drop_succ_cons, List.drop_zero, List.reverse_cons, List.reverse_nil, List.nil_append, List.cons_append, true_and, and_true, if_true, Nat.reduceAdd, Nat.reduceLT, Nat.reduceLeDiff]
    exact h _ 1 (by decide) (fun d2 Q2 hq => sp_mTrial hMC hV (fun S2 w hMo g6 ev F2 => hq S2 w (li_mk hRC hMo F2 hB hOC (by omega) (by omega) (by omega)) (g6.trans (congrArg nI e)) (fun z => absurd z (by decide)))) ⟨hmC, hOC⟩
  · intro e
    simp only [behH]
    refine ⟨_, rfl, fun q => ?_⟩
    simp only [e_L_trial_0, e_L_trial_2, e_L_trial_3, e_L_trial_4, e_L_trial_5, e_L_trial_6, e_L_trial_7, e_L_trial_10, e_L_trial_11, e_L_trial_12, e_L_trial_15, e_L_trial_17, e_L_trial_18, e_L_trial_19, e_L_trial_21, e_L_trial_22, e_L_trial_23, e_L_trial_24, o_const, o_iload, o_aload, o_fload, o_dload, o_istore, o_astore, o_fstore, o_dstore, o_iinc, o_bin, o_div, o_un, o_i2l, o_i2f, o_i2d, o_f2d, o_fdiv, o_ddiv, o_lcmp, o_fcmp, o_dcmp, o_if, o_if2, o_goto, o_dup, o_dupx1, o_dup2, o_pop, o_getI, o_getR, o_putI, o_putR, o_iald, o_iast, o_bald, o_bast, o_zald, o_zast, o_aald, o_aast, o_jald, o_jast, o_dald, o_dast, o_alen, o_castA, o_new, o_newa, o_callv, o_callvN, o_calli, o_calls, o_objinit, o_iret, o_zret, o_fret, o_dret, o_aret, o_vret, o_throw, o_acopy, o_bcopy, o_clone, o_tsw, o_ldcS, o_kval, o_kcoder, o_klen, o_kald, o_tald, o_getSq, o_callk, o_callvH, gl, stl, stl2, pre2, va_rf, Value.category, catS, List.length_cons, List.length_nil, List.map_cons, List.map_nil, List.sum_cons, List.sum_nil, List.take_succ_cons, List.take_zero, List.drop_succ_cons, List.drop_zero, List.reverse_cons, List.reverse_nil, List.nil_append, List.cons_append, true_and, and_true, if_true, Nat.reduceAdd, Nat.reduceLT, Nat.reduceLeDiff]
    exact h _ 2 (by decide) (fun d2 Q2 hq => sp_mTrial hMC hV (fun S2 w hMo g6 ev F2 => hq S2 w (li_mk hRC hMo F2 hB hOC (by omega) (by omega) (by omega)) (g6.trans (congrArg nI e)) (fun z => absurd z (by decide)))) ⟨hmC, hOC⟩
theorem pr_seenAt (hks : ¬ ks 11 = ks 10) (hL : LI S x m ol od ad n) (hn : n < 512) {a : Int32} (h : ∀ S1 (k : Nat), k ≤ 3 → MdC ks n_X9_seenAt [.ref m, .int a] S1 x m ol od ad (n + 1) k → MdF S1 m ol od → Q (.inl (some (.int (nI k)))) S1) : WG ks (d + 30) n_L_seenAt [.ref x, .int a, .ref ol] S Q := by
  obtain ⟨M, u, v, tl, T, eA, hn', H, C, wn, Wt, s0, s1, fr, hR, hM, hB, hO, b1, b2, b3⟩ := hL
  obtain ⟨hV, hVH⟩ := cr_VC hR hB
  have hcc : u + 110 ≤ cCM ∧ v + 910000 ≤ cSM := by unfold cCM cSM; omega
  have hx := cr_x hR
  have hrm : Rm S := cr_rm (by omega) hR
  obtain ⟨st, L9, hQ⟩ := cr_q hR
  have hM9 : M ≤ 9800 := by omega
  have hm := hM.1.1
  have z0 : Int32.toNatClampNeg 0 = 0 := by decide
  have w0 : vp_in 0 1 := vp_in_nI (n := 0) (by decide) (by decide)
  have hOs := hO
  obtain ⟨⟨p1, p2, p3⟩, -⟩ := hOs
  have hMC := mo_sC hM
  have hRC := cr_sC hR
  have hOC := hO.fr (Fr.sC S 1 6)
  have hmC := hMC.1.1
  refine ⟨by simp [cat1, Value.category], by show (3 : Nat) ≤ 4; decide, ?_⟩
  show Run ks (WG ks (d + 29)) Q tb_L_seenAt 0 [some (.ref x), some (.int a), some (.ref ol), none] [] S
  simp only [e_L_seenAt_0, e_L_seenAt_1, e_L_seenAt_2, e_L_seenAt_3, e_L_seenAt_4, e_L_seenAt_7, e_L_seenAt_8, e_L_seenAt_9, e_L_seenAt_12, e_L_seenAt_13, e_L_seenAt_14, e_L_seenAt_15, e_L_seenAt_16, o_const, o_iload, o_aload, o_fload, o_dload, o_istore, o_astore, o_fstore, o_dstore, o_iinc, o_bin, o_div, o_un, o_i2l, o_i2f, o_i2d, o_f2d, o_fdiv, o_ddiv, o_lcmp, o_fcmp, o_dcmp, o_if, o_if2, o_goto, o_dup, o_dupx1, o_dup2, o_pop, o_getI, o_getR, o_putI, o_putR, o_iald, o_iast, o_bald, o_bast, o_zald, o_zast, o_aald, o_aast, o_jald, o_jast, o_dald, o_dast, o_alen, o_castA, o_new, o_newa, o_callv, o_callvN, o_calli, o_calls, o_objinit, o_iret, o_zret, o_fret, o_dret, o_aret, o_vret, o_throw, o_acopy, o_bcopy, o_clone, o_tsw, o_ldcS, o_kval, o_kcoder, o_klen, o_kald, o_tald, o_getSq, o_callk, o_callvH, gl, stl, stl2, pre2, va_rf, Value.category, catS, List.length_cons, List.length_nil, List.map_cons, List.map_nil, List.sum_cons, List.sum_nil, List.take_succ_cons, List.take_zero, List.drop_succ_cons, List.drop_zero, List.reverse_cons, List.reverse_nil, List.nil_append, List.cons_append, true_and, and_true, if_true, Nat.reduceAdd, Nat.reduceLT, Nat.reduceLeDiff, hx]
  refine ⟨⟨x, _, rfl, rfl, hx⟩, sp_seenAt hrm hQ ?_ ?_⟩
  · intro hc
    have F' := Fr.rf S
    have hR' := hR
    have hM' := hM
    have hO' := hO
    have hOt := hO'
    obtain ⟨⟨q1, q2, q3⟩, -⟩ := hOt
    simp only [behH, e_L_seenAt_0, e_L_seenAt_1, e_L_seenAt_2, e_L_seenAt_3, e_L_seenAt_4, e_L_seenAt_7, e_L_seenAt_8, e_L_seenAt_9, e_L_seenAt_12, e_L_seenAt_13, e_L_seenAt_14, e_L_seenAt_15, e_L_seenAt_16, o_const, o_iload, o_aload, o_fload, o_dload, o_istore, o_astore, o_fstore, o_dstore, o_iinc, o_bin, o_div, o_un, o_i2l, o_i2f, o_i2d, o_f2d, o_fdiv, o_ddiv, o_lcmp, o_fcmp, o_dcmp, o_if, o_if2, o_goto, o_dup, o_dupx1, o_dup2, o_pop, o_getI, o_getR, o_putI, o_putR, o_iald, o_iast, o_bald, o_bast, o_zald, o_zast, o_aald, o_aast, o_jald, o_jast, o_dald, o_dast, o_alen, o_castA, o_new, o_newa, o_callv, o_callvN, o_calli, o_calls, o_objinit, o_iret, o_zret, o_fret, o_dret, o_aret, o_vret, o_throw, o_acopy, o_bcopy, o_clone, o_tsw, o_ldcS, o_kval, o_kcoder, o_klen, o_kald, o_tald, o_getSq, o_callk, o_callvH, gl, stl, stl2, pre2, va_rf, Value.category, catS, List.length_cons, List.length_nil, List.map_cons, List.map_nil, List.sum_cons, List.sum_nil, List.take_succ_cons, List.take_zero, List.drop_succ_cons, List.drop_zero, List.reverse_cons, List.reverse_nil, List.nil_append, List.cons_append, true_and, and_true, if_true, Nat.reduceAdd, Nat.reduceLT, Nat.reduceLeDiff, q1, q2, q3, z0, w0]
    exact h _ 0 (by decide) (fun d2 Q2 hq => sp_mSeenAt (mo_sJ hM') (by omega) hV (fun S2 w hMo g6 ev F2 => hq S2 w (li_mk (cr_sJ hR') hMo F2 (hB) (o_sJ hO') (by omega) (by omega) (by omega)) (g6.trans (congrArg nI hc)) (fun _ => by rw [gJ_keep (o_sJ hO') F2, gJ_at, ev hc]))) ⟨(mo_sJ hM').1.1, o_sJ hO'⟩
  · intro e
    simp only [behH]
    refine ⟨_, rfl, fun q => ?_⟩
    simp only [e_L_seenAt_0, e_L_seenAt_1, e_L_seenAt_2, e_L_seenAt_3, e_L_seenAt_4, e_L_seenAt_7, e_L_seenAt_8, e_L_seenAt_9, e_L_seenAt_12, e_L_seenAt_13, e_L_seenAt_14, e_L_seenAt_15, e_L_seenAt_16, o_const, o_iload, o_aload, o_fload, o_dload, o_istore, o_astore, o_fstore, o_dstore, o_iinc, o_bin, o_div, o_un, o_i2l, o_i2f, o_i2d, o_f2d, o_fdiv, o_ddiv, o_lcmp, o_fcmp, o_dcmp, o_if, o_if2, o_goto, o_dup, o_dupx1, o_dup2, o_pop, o_getI, o_getR, o_putI, o_putR, o_iald, o_iast, o_bald, o_bast, o_zald, o_zast, o_aald, o_aast, o_jald, o_jast, o_dald, o_dast, o_alen, o_castA, o_new, o_newa, o_callv, o_callvN, o_calli, o_calls, o_objinit, o_iret, o_zret, o_fret, o_dret, o_aret, o_vret, o_throw, o_acopy, o_bcopy, o_clone, o_tsw, o_ldcS, o_kval, o_kcoder, o_klen, o_kald, o_tald, o_getSq, o_callk, o_callvH, gl, stl, stl2, pre2, va_rf, Value.category, catS, List.length_cons, List.length_nil, List.map_cons, List.map_nil, List.sum_cons, List.sum_nil, List.take_succ_cons, List.take_zero, List.drop_succ_cons, List.drop_zero, List.reverse_cons, List.reverse_nil, List.nil_append, List.cons_append, true_and, and_true, if_true, Nat.reduceAdd, Nat.reduceLT, Nat.reduceLeDiff]
    exact h _ 1 (by decide) (fun d2 Q2 hq => sp_mSeenAt hMC (by omega) hV (fun S2 w hMo g6 ev F2 => hq S2 w (li_mk hRC hMo F2 hB hOC (by omega) (by omega) (by omega)) (g6.trans (congrArg nI e)) (fun z => absurd z (by decide)))) ⟨hmC, hOC⟩
theorem pr_mostSeen (hks : ¬ ks 11 = ks 10) (hL : LI S x m ol od ad n) (hn : n < 512) (h : ∀ S1 (k : Nat), k ≤ 3 → MdC ks n_X9_mostSeen [.ref m] S1 x m ol od ad (n + 1) k → MdF S1 m ol od → Q (.inl (some (.int (nI k)))) S1) : WG ks (d + 30) n_L_mostSeen [.ref x, .ref ol] S Q := by
  obtain ⟨M, u, v, tl, T, eA, hn', H, C, wn, Wt, s0, s1, fr, hR, hM, hB, hO, b1, b2, b3⟩ := hL
  obtain ⟨hV, hVH⟩ := cr_VC hR hB
  have hcc : u + 110 ≤ cCM ∧ v + 910000 ≤ cSM := by unfold cCM cSM; omega
  have hx := cr_x hR
  have hrm : Rm S := cr_rm (by omega) hR
  obtain ⟨st, L9, hQ⟩ := cr_q hR
  have hM9 : M ≤ 9800 := by omega
  have hm := hM.1.1
  have z0 : Int32.toNatClampNeg 0 = 0 := by decide
  have w0 : vp_in 0 1 := vp_in_nI (n := 0) (by decide) (by decide)
  have hOs := hO
  obtain ⟨⟨p1, p2, p3⟩, -⟩ := hOs
  have hMC := mo_sC hM
  have hRC := cr_sC hR
  have hOC := hO.fr (Fr.sC S 1 6)
  have hmC := hMC.1.1
  refine ⟨by simp [cat1, Value.category], by show (2 : Nat) ≤ 3; decide, ?_⟩
  show Run ks (WG ks (d + 29)) Q tb_L_mostSeen 0 [some (.ref x), some (.ref ol), none] [] S
  simp only [e_L_mostSeen_0, e_L_mostSeen_1, e_L_mostSeen_2, e_L_mostSeen_3, e_L_mostSeen_6, e_L_mostSeen_7, e_L_mostSeen_8, e_L_mostSeen_11, e_L_mostSeen_12, e_L_mostSeen_13, e_L_mostSeen_14, e_L_mostSeen_15, o_const, o_iload, o_aload, o_fload, o_dload, o_istore, o_astore, o_fstore, o_dstore, o_iinc, o_bin, o_div, o_un, o_i2l, o_i2f, o_i2d, o_f2d, o_fdiv, o_ddiv, o_lcmp, o_fcmp, o_dcmp, o_if, o_if2, o_goto, o_dup, o_dupx1, o_dup2, o_pop, o_getI, o_getR, o_putI, o_putR, o_iald, o_iast, o_bald, o_bast, o_zald, o_zast, o_aald, o_aast, o_jald, o_jast, o_dald, o_dast, o_alen, o_castA, o_new, o_newa, o_callv, o_callvN, o_calli, o_calls, o_objinit, o_iret, o_zret, o_fret, o_dret, o_aret, o_vret, o_throw, o_acopy, o_bcopy, o_clone, o_tsw, o_ldcS, o_kval, o_kcoder, o_klen, o_kald, o_tald, o_getSq, o_callk, o_callvH, gl, stl, stl2, pre2, va_rf, Value.category, catS, List.length_cons, List.length_nil, List.map_cons, List.map_nil, List.sum_cons, List.sum_nil, List.take_succ_cons, List.take_zero, List.drop_succ_cons, List.drop_zero, List.reverse_cons, List.reverse_nil, List.nil_append, List.cons_append, true_and, and_true, if_true, Nat.reduceAdd, Nat.reduceLT, Nat.reduceLeDiff, hx]
  refine ⟨⟨x, _, rfl, rfl, hx⟩, sp_mostSeen hrm (by omega) hQ ?_ ?_⟩
  · intro hc
    have F' := Fr.rf S
    have hR' := hR
    have hM' := hM
    have hO' := hO
    have hOt := hO'
    obtain ⟨⟨q1, q2, q3⟩, -⟩ := hOt
    simp only [behH, e_L_mostSeen_0, e_L_mostSeen_1, e_L_mostSeen_2, e_L_mostSeen_3, e_L_mostSeen_6, e_L_mostSeen_7, e_L_mostSeen_8, e_L_mostSeen_11, e_L_mostSeen_12, e_L_mostSeen_13, e_L_mostSeen_14, e_L_mostSeen_15, o_const, o_iload, o_aload, o_fload, o_dload, o_istore, o_astore, o_fstore, o_dstore, o_iinc, o_bin, o_div, o_un, o_i2l, o_i2f, o_i2d, o_f2d, o_fdiv, o_ddiv, o_lcmp, o_fcmp, o_dcmp, o_if, o_if2, o_goto, o_dup, o_dupx1, o_dup2, o_pop, o_getI, o_getR, o_putI, o_putR, o_iald, o_iast, o_bald, o_bast, o_zald, o_zast, o_aald, o_aast, o_jald, o_jast, o_dald, o_dast, o_alen, o_castA, o_new, o_newa, o_callv, o_callvN, o_calli, o_calls, o_objinit, o_iret, o_zret, o_fret, o_dret, o_aret, o_vret, o_throw, o_acopy, o_bcopy, o_clone, o_tsw, o_ldcS, o_kval, o_kcoder, o_klen, o_kald, o_tald, o_getSq, o_callk, o_callvH, gl, stl, stl2, pre2, va_rf, Value.category, catS, List.length_cons, List.length_nil, List.map_cons, List.map_nil, List.sum_cons, List.sum_nil, List.take_succ_cons, List.take_zero, List.drop_succ_cons, List.drop_zero, List.reverse_cons, List.reverse_nil, List.nil_append, List.cons_append, true_and, and_true, if_true, Nat.reduceAdd, Nat.reduceLT, Nat.reduceLeDiff, q1, q2, q3, z0, w0]
    exact h _ 0 (by decide) (fun d2 Q2 hq => sp_mMostSeen (mo_sJ hM') (by omega) hV (fun S2 w hMo g6 ev F2 => hq S2 w (li_mk (cr_sJ hR') hMo F2 (hB) (o_sJ hO') (by omega) (by omega) (by omega)) (g6.trans (congrArg nI hc)) (fun _ => by rw [gJ_keep (o_sJ hO') F2, gJ_at, ev hc]))) ⟨(mo_sJ hM').1.1, o_sJ hO'⟩
  · intro e
    simp only [behH]
    refine ⟨_, rfl, fun q => ?_⟩
    simp only [e_L_mostSeen_0, e_L_mostSeen_1, e_L_mostSeen_2, e_L_mostSeen_3, e_L_mostSeen_6, e_L_mostSeen_7, e_L_mostSeen_8, e_L_mostSeen_11, e_L_mostSeen_12, e_L_mostSeen_13, e_L_mostSeen_14, e_L_mostSeen_15, o_const, o_iload, o_aload, o_fload, o_dload, o_istore, o_astore, o_fstore, o_dstore, o_iinc, o_bin, o_div, o_un, o_i2l, o_i2f, o_i2d, o_f2d, o_fdiv, o_ddiv, o_lcmp, o_fcmp, o_dcmp, o_if, o_if2, o_goto, o_dup, o_dupx1, o_dup2, o_pop, o_getI, o_getR, o_putI, o_putR, o_iald, o_iast, o_bald, o_bast, o_zald, o_zast, o_aald, o_aast, o_jald, o_jast, o_dald, o_dast, o_alen, o_castA, o_new, o_newa, o_callv, o_callvN, o_calli, o_calls, o_objinit, o_iret, o_zret, o_fret, o_dret, o_aret, o_vret, o_throw, o_acopy, o_bcopy, o_clone, o_tsw, o_ldcS, o_kval, o_kcoder, o_klen, o_kald, o_tald, o_getSq, o_callk, o_callvH, gl, stl, stl2, pre2, va_rf, Value.category, catS, List.length_cons, List.length_nil, List.map_cons, List.map_nil, List.sum_cons, List.sum_nil, List.take_succ_cons, List.take_zero, List.drop_succ_cons, List.drop_zero, List.reverse_cons, List.reverse_nil, List.nil_append, List.cons_append, true_and, and_true, if_true, Nat.reduceAdd, Nat.reduceLT, Nat.reduceLeDiff]
    exact h _ 1 (by decide) (fun d2 Q2 hq => sp_mMostSeen hMC (by omega) hV (fun S2 w hMo g6 ev F2 => hq S2 w (li_mk hRC hMo F2 hB hOC (by omega) (by omega) (by omega)) (g6.trans (congrArg nI e)) (fun z => absurd z (by decide)))) ⟨hmC, hOC⟩
end PRS
