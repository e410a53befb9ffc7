/-! THE CONVERTER, made: the states and the history -/
section SPS
variable {ks : Nat → Nat} {d : Nat} {Q : QP} {S : M9} {x : Nat}
theorem sp_tcInit (hx : x ∈ gL S) (hk : gK S x = 10) (hc : gC S + 400 ≤ cCM) (hz : gZ S + 60000 ≤ cSM)
    (h : ∀ S', CR S' x 0 (gC S + 120) (gZ S + 19000) 0 (fun _ => 0) (-1) 0 (fun _ => C1s) C1s 0 (fun _ => 0) (0, (fun _ => 0), 0) (0, (fun _ => 0), 0) 0 → Fr S S' (fun t a => (t = 10 ∧ a = x) ∨ 100 ≤ t) 120 19000 → Q (.inl none) S') : WG ks (d + 6) n_X8_init [.ref x] S Q := by
  refine sp_tcA hx hk (by omega) (by omega) ?_
  intro S0 tx rp sb o0 o1 ⟨x1, x2, g0, g1, g2, g5, g6, g7, g8, g9⟩ hA hW hB hL0 hL1 hne F0
  rw [e_X8_init_72]
  simp only [e_X8_init_0, e_X8_init_1, e_X8_init_4, e_X8_init_5, e_X8_init_8, e_X8_init_10, e_X8_init_13, e_X8_init_14, e_X8_init_15, e_X8_init_18, e_X8_init_19, e_X8_init_20, e_X8_init_23, e_X8_init_24, e_X8_init_27, e_X8_init_28, e_X8_init_31, e_X8_init_34, e_X8_init_35, e_X8_init_36, e_X8_init_39, e_X8_init_40, e_X8_init_43, e_X8_init_44, e_X8_init_47, e_X8_init_50, e_X8_init_51, e_X8_init_54, e_X8_init_55, e_X8_init_58, e_X8_init_61, e_X8_init_62, e_X8_init_65, e_X8_init_66, e_X8_init_69, e_X8_init_72, e_X8_init_76, e_X8_init_79, e_X8_init_80, e_X8_init_81, e_X8_init_82, e_X8_init_83, e_X8_init_86, e_X8_init_87, e_X8_init_88, e_X8_init_89, e_X8_init_90, e_X8_init_93, e_X8_init_94, e_X8_init_98, e_X8_init_99, e_X8_init_102, e_X8_init_105, e_X8_init_106, e_X8_init_110, e_X8_init_111, e_X8_init_114, e_X8_init_117, o_const, o_iload, o_aload, o_fload, o_dload, o_istore, o_astore, o_fstore, o_dstore, o_iinc, o_bin, o_div, o_un, o_i2l, o_i2f, o_i2d, o_f2d, o_fdiv, o_ddiv, o_lcmp, o_fcmp, o_dcmp, o_if, o_if2, o_goto, o_dup, o_dupx1, o_dup2, o_pop, o_getI, o_getR, o_putI, o_putR, o_iald, o_iast, o_bald, o_bast, o_zald, o_zast, o_aald, o_aast, o_jald, o_jast, o_dald, o_dast, o_alen, o_castA, o_new, o_newa, o_callv, o_callvN, o_calli, o_calls, o_objinit, o_iret, o_zret, o_fret, o_dret, o_aret, o_vret, o_throw, o_acopy, o_bcopy, o_clone, o_tsw, o_ldcS, o_kval, o_kcoder, o_klen, o_kald, o_tald, o_getSq, o_callk, o_callvH, gl, stl, stl2, pre2, va_rf, Value.category, catS, List.length_cons, List.length_nil, List.map_cons, List.map_nil, List.sum_cons, List.sum_nil, List.take_succ_cons, List.take_zero, List.drop_succ_cons, List.drop_zero, List.reverse_cons, List.reverse_nil, List.nil_append, List.cons_append, true_and, and_true, if_true, Nat.reduceAdd, Nat.reduceLT, Nat.reduceLeDiff]
  refine ⟨by have := F0.2.2.1; omega, by have := F0.2.2.2; omega, fun s hs => ?_⟩
  have F1 := Fr.nW S0 7 s 0 8 hs
  have s1 : s ∈ gL (nW S0 7 s 0 8) := List.mem_append_right _ List.mem_cons_self
  have s2 : gK (nW S0 7 s 0 8) s = 7 := by rw [gK_nW, if_pos rfl]
  generalize nW S0 7 s 0 8 = S1 at F1 s1 s2 ⊢
  rw [e_X8_init_75]
  simp only [e_X8_init_0, e_X8_init_1, e_X8_init_4, e_X8_init_5, e_X8_init_8, e_X8_init_10, e_X8_init_13, e_X8_init_14, e_X8_init_15, e_X8_init_18, e_X8_init_19, e_X8_init_20, e_X8_init_23, e_X8_init_24, e_X8_init_27, e_X8_init_28, e_X8_init_31, e_X8_init_34, e_X8_init_35, e_X8_init_36, e_X8_init_39, e_X8_init_40, e_X8_init_43, e_X8_init_44, e_X8_init_47, e_X8_init_50, e_X8_init_51, e_X8_init_54, e_X8_init_55, e_X8_init_58, e_X8_init_61, e_X8_init_62, e_X8_init_65, e_X8_init_66, e_X8_init_69, e_X8_init_72, e_X8_init_76, e_X8_init_79, e_X8_init_80, e_X8_init_81, e_X8_init_82, e_X8_init_83, e_X8_init_86, e_X8_init_87, e_X8_init_88, e_X8_init_89, e_X8_init_90, e_X8_init_93, e_X8_init_94, e_X8_init_98, e_X8_init_99, e_X8_init_102, e_X8_init_105, e_X8_init_106, e_X8_init_110, e_X8_init_111, e_X8_init_114, e_X8_init_117, o_const, o_iload, o_aload, o_fload, o_dload, o_istore, o_astore, o_fstore, o_dstore, o_iinc, o_bin, o_div, o_un, o_i2l, o_i2f, o_i2d, o_f2d, o_fdiv, o_ddiv, o_lcmp, o_fcmp, o_dcmp, o_if, o_if2, o_goto, o_dup, o_dupx1, o_dup2, o_pop, o_getI, o_getR, o_putI, o_putR, o_iald, o_iast, o_bald, o_bast, o_zald, o_zast, o_aald, o_aast, o_jald, o_jast, o_dald, o_dast, o_alen, o_castA, o_new, o_newa, o_callv, o_callvN, o_calli, o_calls, o_objinit, o_iret, o_zret, o_fret, o_dret, o_aret, o_vret, o_throw, o_acopy, o_bcopy, o_clone, o_tsw, o_ldcS, o_kval, o_kcoder, o_klen, o_kald, o_tald, o_getSq, o_callk, o_callvH, gl, stl, stl2, pre2, va_rf, Value.category, catS, List.length_cons, List.length_nil, List.map_cons, List.map_nil, List.sum_cons, List.sum_nil, List.take_succ_cons, List.take_zero, List.drop_succ_cons, List.drop_zero, List.reverse_cons, List.reverse_nil, List.nil_append, List.cons_append, true_and, and_true, if_true, Nat.reduceAdd, Nat.reduceLT, Nat.reduceLeDiff]
  refine ⟨⟨s, _, rfl, rfl⟩, sp_setupInit s1 s2 (by have := F0.2.2.1; have := F1.2.2.1; omega) (by have := F0.2.2.2; have := F1.2.2.2; omega) ?_⟩
  intro S2 hS2 F2 hn2
  have hS2c := hS2
  obtain ⟨_, _, _, _, _, p1, p2, -⟩ := hS2c
  simp only [behN, e_X8_init_0, e_X8_init_1, e_X8_init_4, e_X8_init_5, e_X8_init_8, e_X8_init_10, e_X8_init_13, e_X8_init_14, e_X8_init_15, e_X8_init_18, e_X8_init_19, e_X8_init_20, e_X8_init_23, e_X8_init_24, e_X8_init_27, e_X8_init_28, e_X8_init_31, e_X8_init_34, e_X8_init_35, e_X8_init_36, e_X8_init_39, e_X8_init_40, e_X8_init_43, e_X8_init_44, e_X8_init_47, e_X8_init_50, e_X8_init_51, e_X8_init_54, e_X8_init_55, e_X8_init_58, e_X8_init_61, e_X8_init_62, e_X8_init_65, e_X8_init_66, e_X8_init_69, e_X8_init_72, e_X8_init_76, e_X8_init_79, e_X8_init_80, e_X8_init_81, e_X8_init_82, e_X8_init_83, e_X8_init_86, e_X8_init_87, e_X8_init_88, e_X8_init_89, e_X8_init_90, e_X8_init_93, e_X8_init_94, e_X8_init_98, e_X8_init_99, e_X8_init_102, e_X8_init_105, e_X8_init_106, e_X8_init_110, e_X8_init_111, e_X8_init_114, e_X8_init_117, o_const, o_iload, o_aload, o_fload, o_dload, o_istore, o_astore, o_fstore, o_dstore, o_iinc, o_bin, o_div, o_un, o_i2l, o_i2f, o_i2d, o_f2d, o_fdiv, o_ddiv, o_lcmp, o_fcmp, o_dcmp, o_if, o_if2, o_goto, o_dup, o_dupx1, o_dup2, o_pop, o_getI, o_getR, o_putI, o_putR, o_iald, o_iast, o_bald, o_bast, o_zald, o_zast, o_aald, o_aast, o_jald, o_jast, o_dald, o_dast, o_alen, o_castA, o_new, o_newa, o_callv, o_callvN, o_calli, o_calls, o_objinit, o_iret, o_zret, o_fret, o_dret, o_aret, o_vret, o_throw, o_acopy, o_bcopy, o_clone, o_tsw, o_ldcS, o_kval, o_kcoder, o_klen, o_kald, o_tald, o_getSq, o_callk, o_callvH, gl, stl, stl2, pre2, va_rf, Value.category, catS, List.length_cons, List.length_nil, List.map_cons, List.map_nil, List.sum_cons, List.sum_nil, List.take_succ_cons, List.take_zero, List.drop_succ_cons, List.drop_zero, List.reverse_cons, List.reverse_nil, List.nil_append, List.cons_append, true_and, and_true, if_true, Nat.reduceAdd, Nat.reduceLT, Nat.reduceLeDiff, p1, p2]
  refine ⟨⟨s, _, rfl, rfl, p1, p2⟩, sp_addComparator (of := 0) (am := 0) hS2 (by decide) ?_⟩
  intro S3 hS3 F3 hg3
  have hS3c := hS3
  obtain ⟨_, _, _, _, _, p3, p4, -⟩ := hS3c
  simp only [behind, e_X8_init_0, e_X8_init_1, e_X8_init_4, e_X8_init_5, e_X8_init_8, e_X8_init_10, e_X8_init_13, e_X8_init_14, e_X8_init_15, e_X8_init_18, e_X8_init_19, e_X8_init_20, e_X8_init_23, e_X8_init_24, e_X8_init_27, e_X8_init_28, e_X8_init_31, e_X8_init_34, e_X8_init_35, e_X8_init_36, e_X8_init_39, e_X8_init_40, e_X8_init_43, e_X8_init_44, e_X8_init_47, e_X8_init_50, e_X8_init_51, e_X8_init_54, e_X8_init_55, e_X8_init_58, e_X8_init_61, e_X8_init_62, e_X8_init_65, e_X8_init_66, e_X8_init_69, e_X8_init_72, e_X8_init_76, e_X8_init_79, e_X8_init_80, e_X8_init_81, e_X8_init_82, e_X8_init_83, e_X8_init_86, e_X8_init_87, e_X8_init_88, e_X8_init_89, e_X8_init_90, e_X8_init_93, e_X8_init_94, e_X8_init_98, e_X8_init_99, e_X8_init_102, e_X8_init_105, e_X8_init_106, e_X8_init_110, e_X8_init_111, e_X8_init_114, e_X8_init_117, o_const, o_iload, o_aload, o_fload, o_dload, o_istore, o_astore, o_fstore, o_dstore, o_iinc, o_bin, o_div, o_un, o_i2l, o_i2f, o_i2d, o_f2d, o_fdiv, o_ddiv, o_lcmp, o_fcmp, o_dcmp, o_if, o_if2, o_goto, o_dup, o_dupx1, o_dup2, o_pop, o_getI, o_getR, o_putI, o_putR, o_iald, o_iast, o_bald, o_bast, o_zald, o_zast, o_aald, o_aast, o_jald, o_jast, o_dald, o_dast, o_alen, o_castA, o_new, o_newa, o_callv, o_callvN, o_calli, o_calls, o_objinit, o_iret, o_zret, o_fret, o_dret, o_aret, o_vret, o_throw, o_acopy, o_bcopy, o_clone, o_tsw, o_ldcS, o_kval, o_kcoder, o_klen, o_kald, o_tald, o_getSq, o_callk, o_callvH, gl, stl, stl2, pre2, va_rf, Value.category, catS, List.length_cons, List.length_nil, List.map_cons, List.map_nil, List.sum_cons, List.sum_nil, List.take_succ_cons, List.take_zero, List.drop_succ_cons, List.drop_zero, List.reverse_cons, List.reverse_nil, List.nil_append, List.cons_append, true_and, and_true, if_true, Nat.reduceAdd, Nat.reduceLT, Nat.reduceLeDiff, p3, p4]
  refine ⟨⟨s, _, rfl, rfl, p3, p4⟩, sp_addWeight (to := 1) (ac := 1) (us := 0) hS3 (by decide) ?_⟩
  intro S4 hS4 F4 hg4
  have hS4' : SetR S4 s A1s := hS4
  have hsn : ¬ s ∈ gL S0 := hs
  have hno : ∀ t a, a ∈ gL S0 → ¬ SetA S2 s t a := fun t a ha w => by
    have := hn2 t a w (F1.1 a ha).1
    exact hsn (this.2 ▸ ha)
  have F04 : Fr S0 S4 (fun _ _ => False) 6 44 := (F1.trans (F2.trans (F3.trans F4))).mono (fun t a ha w => by
    rcases w with w | w | w | w
    · exact w
    · exact hsn (w.2 ▸ ha)
    · exact hno t a ha w
    · exact hno t a ha (by unfold SetA at w ⊢; rw [hg3] at w; exact w)) (by decide) (by decide)
  have y1 := F04.1 x x1
  have e4 := F04.2.1 10 x x1 (fun w => w)
  simp only [behind, e_X8_init_0, e_X8_init_1, e_X8_init_4, e_X8_init_5, e_X8_init_8, e_X8_init_10, e_X8_init_13, e_X8_init_14, e_X8_init_15, e_X8_init_18, e_X8_init_19, e_X8_init_20, e_X8_init_23, e_X8_init_24, e_X8_init_27, e_X8_init_28, e_X8_init_31, e_X8_init_34, e_X8_init_35, e_X8_init_36, e_X8_init_39, e_X8_init_40, e_X8_init_43, e_X8_init_44, e_X8_init_47, e_X8_init_50, e_X8_init_51, e_X8_init_54, e_X8_init_55, e_X8_init_58, e_X8_init_61, e_X8_init_62, e_X8_init_65, e_X8_init_66, e_X8_init_69, e_X8_init_72, e_X8_init_76, e_X8_init_79, e_X8_init_80, e_X8_init_81, e_X8_init_82, e_X8_init_83, e_X8_init_86, e_X8_init_87, e_X8_init_88, e_X8_init_89, e_X8_init_90, e_X8_init_93, e_X8_init_94, e_X8_init_98, e_X8_init_99, e_X8_init_102, e_X8_init_105, e_X8_init_106, e_X8_init_110, e_X8_init_111, e_X8_init_114, e_X8_init_117, o_const, o_iload, o_aload, o_fload, o_dload, o_istore, o_astore, o_fstore, o_dstore, o_iinc, o_bin, o_div, o_un, o_i2l, o_i2f, o_i2d, o_f2d, o_fdiv, o_ddiv, o_lcmp, o_fcmp, o_dcmp, o_if, o_if2, o_goto, o_dup, o_dupx1, o_dup2, o_pop, o_getI, o_getR, o_putI, o_putR, o_iald, o_iast, o_bald, o_bast, o_zald, o_zast, o_aald, o_aast, o_jald, o_jast, o_dald, o_dast, o_alen, o_castA, o_new, o_newa, o_callv, o_callvN, o_calli, o_calls, o_objinit, o_iret, o_zret, o_fret, o_dret, o_aret, o_vret, o_throw, o_acopy, o_bcopy, o_clone, o_tsw, o_ldcS, o_kval, o_kcoder, o_klen, o_kald, o_tald, o_getSq, o_callk, o_callvH, gl, stl, stl2, pre2, va_rf, Value.category, catS, List.length_cons, List.length_nil, List.map_cons, List.map_nil, List.sum_cons, List.sum_nil, List.take_succ_cons, List.take_zero, List.drop_succ_cons, List.drop_zero, List.reverse_cons, List.reverse_nil, List.nil_append, List.cons_append, true_and, and_true, if_true, Nat.reduceAdd, Nat.reduceLT, Nat.reduceLeDiff]
  refine ⟨by have := F0.2.2.1; have := F04.2.2.1; omega, by have := F0.2.2.2; have := F04.2.2.2; omega, fun s8 hs8 => ?_⟩
  have F5 := Fr.nW S4 9 s8 0 6 hs8
  have t1 : s8 ∈ gL (nW S4 9 s8 0 6) := List.mem_append_right _ List.mem_cons_self
  have t2 : gK (nW S4 9 s8 0 6) s8 = 9 := by rw [gK_nW, if_pos rfl]
  have hS5 := hS4'.fr F5 (fun w => w) (fun _ _ _ _ w => w)
  generalize nW S4 9 s8 0 6 = S5 at F5 t1 t2 hS5 ⊢
  have F05 : Fr S0 S5 (fun _ _ => False) 7 50 := (F04.trans F5).mono (fun _ _ _ w => w.elim id id) (by decide) (by decide)
  rw [e_X8_init_97]
  simp only [e_X8_init_0, e_X8_init_1, e_X8_init_4, e_X8_init_5, e_X8_init_8, e_X8_init_10, e_X8_init_13, e_X8_init_14, e_X8_init_15, e_X8_init_18, e_X8_init_19, e_X8_init_20, e_X8_init_23, e_X8_init_24, e_X8_init_27, e_X8_init_28, e_X8_init_31, e_X8_init_34, e_X8_init_35, e_X8_init_36, e_X8_init_39, e_X8_init_40, e_X8_init_43, e_X8_init_44, e_X8_init_47, e_X8_init_50, e_X8_init_51, e_X8_init_54, e_X8_init_55, e_X8_init_58, e_X8_init_61, e_X8_init_62, e_X8_init_65, e_X8_init_66, e_X8_init_69, e_X8_init_72, e_X8_init_76, e_X8_init_79, e_X8_init_80, e_X8_init_81, e_X8_init_82, e_X8_init_83, e_X8_init_86, e_X8_init_87, e_X8_init_88, e_X8_init_89, e_X8_init_90, e_X8_init_93, e_X8_init_94, e_X8_init_98, e_X8_init_99, e_X8_init_102, e_X8_init_105, e_X8_init_106, e_X8_init_110, e_X8_init_111, e_X8_init_114, e_X8_init_117, o_const, o_iload, o_aload, o_fload, o_dload, o_istore, o_astore, o_fstore, o_dstore, o_iinc, o_bin, o_div, o_un, o_i2l, o_i2f, o_i2d, o_f2d, o_fdiv, o_ddiv, o_lcmp, o_fcmp, o_dcmp, o_if, o_if2, o_goto, o_dup, o_dupx1, o_dup2, o_pop, o_getI, o_getR, o_putI, o_putR, o_iald, o_iast, o_bald, o_bast, o_zald, o_zast, o_aald, o_aast, o_jald, o_jast, o_dald, o_dast, o_alen, o_castA, o_new, o_newa, o_callv, o_callvN, o_calli, o_calls, o_objinit, o_iret, o_zret, o_fret, o_dret, o_aret, o_vret, o_throw, o_acopy, o_bcopy, o_clone, o_tsw, o_ldcS, o_kval, o_kcoder, o_klen, o_kald, o_tald, o_getSq, o_callk, o_callvH, gl, stl, stl2, pre2, va_rf, Value.category, catS, List.length_cons, List.length_nil, List.map_cons, List.map_nil, List.sum_cons, List.sum_nil, List.take_succ_cons, List.take_zero, List.drop_succ_cons, List.drop_zero, List.reverse_cons, List.reverse_nil, List.nil_append, List.cons_append, true_and, and_true, if_true, Nat.reduceAdd, Nat.reduceLT, Nat.reduceLeDiff]
  refine ⟨⟨s8, _, rfl, rfl⟩, sp_stateInit (B := 164) t1 t2 (by decide) hS5 A1s_V (by have := F0.2.2.1; have := F05.2.2.1; omega) (by have := F0.2.2.2; have := F05.2.2.2; omega) ?_⟩
  intro S6 hR6 F6 n3 n4
  have hs80 : ¬ s8 ∈ gL S0 := fun w => hs8 (F04.1 s8 w).1
  have F06 : Fr S0 S6 (fun t a => 100 ≤ t) 17 371 := (F05.trans F6).mono (fun t a ha w => by
    rcases w with w | w | w
    · exact w.elim
    · exact absurd (w.2 ▸ ha) hs80
    · omega) (by decide) (by decide)
  have y6 := F06.1 x x1
  have e6 := F06.2.1 10 x x1 (fun w => by omega)
  have hS6 := hS5.fr F6 (fun w => by omega) (fun t a h1 h2 w => by omega)
  simp only [behN, e_X8_init_0, e_X8_init_1, e_X8_init_4, e_X8_init_5, e_X8_init_8, e_X8_init_10, e_X8_init_13, e_X8_init_14, e_X8_init_15, e_X8_init_18, e_X8_init_19, e_X8_init_20, e_X8_init_23, e_X8_init_24, e_X8_init_27, e_X8_init_28, e_X8_init_31, e_X8_init_34, e_X8_init_35, e_X8_init_36, e_X8_init_39, e_X8_init_40, e_X8_init_43, e_X8_init_44, e_X8_init_47, e_X8_init_50, e_X8_init_51, e_X8_init_54, e_X8_init_55, e_X8_init_58, e_X8_init_61, e_X8_init_62, e_X8_init_65, e_X8_init_66, e_X8_init_69, e_X8_init_72, e_X8_init_76, e_X8_init_79, e_X8_init_80, e_X8_init_81, e_X8_init_82, e_X8_init_83, e_X8_init_86, e_X8_init_87, e_X8_init_88, e_X8_init_89, e_X8_init_90, e_X8_init_93, e_X8_init_94, e_X8_init_98, e_X8_init_99, e_X8_init_102, e_X8_init_105, e_X8_init_106, e_X8_init_110, e_X8_init_111, e_X8_init_114, e_X8_init_117, o_const, o_iload, o_aload, o_fload, o_dload, o_istore, o_astore, o_fstore, o_dstore, o_iinc, o_bin, o_div, o_un, o_i2l, o_i2f, o_i2d, o_f2d, o_fdiv, o_ddiv, o_lcmp, o_fcmp, o_dcmp, o_if, o_if2, o_goto, o_dup, o_dupx1, o_dup2, o_pop, o_getI, o_getR, o_putI, o_putR, o_iald, o_iast, o_bald, o_bast, o_zald, o_zast, o_aald, o_aast, o_jald, o_jast, o_dald, o_dast, o_alen, o_castA, o_new, o_newa, o_callv, o_callvN, o_calli, o_calls, o_objinit, o_iret, o_zret, o_fret, o_dret, o_aret, o_vret, o_throw, o_acopy, o_bcopy, o_clone, o_tsw, o_ldcS, o_kval, o_kcoder, o_klen, o_kald, o_tald, o_getSq, o_callk, o_callvH, gl, stl, stl2, pre2, va_rf, Value.category, catS, List.length_cons, List.length_nil, List.map_cons, List.map_nil, List.sum_cons, List.sum_nil, List.take_succ_cons, List.take_zero, List.drop_succ_cons, List.drop_zero, List.reverse_cons, List.reverse_nil, List.nil_append, List.cons_append, true_and, and_true, if_true, Nat.reduceAdd, Nat.reduceLT, Nat.reduceLeDiff, y6.1, y6.2.1.trans x2, gL_sW, gL_sI, gL_sR, gL_sC, gL_nW, gK_sW, gK_sI, gK_sR, gK_sC, gK_nW, gN_sW, gN_sI, gN_sR, gN_sC, gN_nW, gC_sW, gC_sI, gC_sR, gC_sC, gC_nW, gZ_sW, gZ_sI, gZ_sR, gZ_sC, gZ_nW]
  refine ⟨by have := F0.2.2.1; have := F06.2.2.1; omega, by have := F0.2.2.2; have := F06.2.2.2; omega, fun hi hhi => ?_⟩
  have hhi6 : ¬ hi ∈ gL S6 := hhi
  have F7 := fr_pn (S := S6) (t := 10) (a := x) (k := 3) (v := some s8) (t' := 2) (n := 0) (z := 3) hhi
  have u1 : hi ∈ gL (nW (sR S6 10 x 3 (some s8)) 2 hi 0 3) := List.mem_append_right _ List.mem_cons_self
  have u2 : gK (nW (sR S6 10 x 3 (some s8)) 2 hi 0 3) hi = 2 := by rw [gK_nW, if_pos rfl]
  have k : ∀ j, ¬ j = 3 → gR (nW (sR S6 10 x 3 (some s8)) 2 hi 0 3) 10 x j = gR S0 10 x j := fun j hj => by rw [gR_nWk, if_neg (fun w => absurd w.1 (by decide)), gR_sRk, if_neg (fun w => hj w.2.2), e6.2.1]
  have kI : ∀ j, gI (nW (sR S6 10 x 3 (some s8)) 2 hi 0 3) 10 x j = gI S0 10 x j := fun j => by rw [gI_nWk, if_neg (fun w => absurd w.1 (by decide)), gI_sR, e6.1]
  have k3 : gR (nW (sR S6 10 x 3 (some s8)) 2 hi 0 3) 10 x 3 = some s8 := by rw [gR_nWk, if_neg (fun w => absurd w.1 (by decide)), gR_sRk, if_pos ⟨rfl, rfl, rfl⟩]
  generalize nW (sR S6 10 x 3 (some s8)) 2 hi 0 3 = S7 at F7 u1 u2 k kI k3 ⊢
  have F07 : Fr S0 S7 (fun t a => (t = 10 ∧ a = x) ∨ 100 ≤ t) 18 374 := (F06.trans F7).mono (fun t a _ w => w.elim Or.inr Or.inl) (by decide) (by decide)
  have hS7 := hS6.fr F7 (fun w => by omega) (fun t a h1 h2 w => by omega)
  have hR7 := hR6.fr F7 (fun w => absurd w.1 (by decide)) (fun t a w1 w2 => by rcases w1 with w | w | w | w <;> omega) (fun a w => absurd w.1 (by decide)) (fun t a h1 h2 w => by omega)
  rw [e_X8_init_109]
  simp only [e_X8_init_0, e_X8_init_1, e_X8_init_4, e_X8_init_5, e_X8_init_8, e_X8_init_10, e_X8_init_13, e_X8_init_14, e_X8_init_15, e_X8_init_18, e_X8_init_19, e_X8_init_20, e_X8_init_23, e_X8_init_24, e_X8_init_27, e_X8_init_28, e_X8_init_31, e_X8_init_34, e_X8_init_35, e_X8_init_36, e_X8_init_39, e_X8_init_40, e_X8_init_43, e_X8_init_44, e_X8_init_47, e_X8_init_50, e_X8_init_51, e_X8_init_54, e_X8_init_55, e_X8_init_58, e_X8_init_61, e_X8_init_62, e_X8_init_65, e_X8_init_66, e_X8_init_69, e_X8_init_72, e_X8_init_76, e_X8_init_79, e_X8_init_80, e_X8_init_81, e_X8_init_82, e_X8_init_83, e_X8_init_86, e_X8_init_87, e_X8_init_88, e_X8_init_89, e_X8_init_90, e_X8_init_93, e_X8_init_94, e_X8_init_98, e_X8_init_99, e_X8_init_102, e_X8_init_105, e_X8_init_106, e_X8_init_110, e_X8_init_111, e_X8_init_114, e_X8_init_117, o_const, o_iload, o_aload, o_fload, o_dload, o_istore, o_astore, o_fstore, o_dstore, o_iinc, o_bin, o_div, o_un, o_i2l, o_i2f, o_i2d, o_f2d, o_fdiv, o_ddiv, o_lcmp, o_fcmp, o_dcmp, o_if, o_if2, o_goto, o_dup, o_dupx1, o_dup2, o_pop, o_getI, o_getR, o_putI, o_putR, o_iald, o_iast, o_bald, o_bast, o_zald, o_zast, o_aald, o_aast, o_jald, o_jast, o_dald, o_dast, o_alen, o_castA, o_new, o_newa, o_callv, o_callvN, o_calli, o_calls, o_objinit, o_iret, o_zret, o_fret, o_dret, o_aret, o_vret, o_throw, o_acopy, o_bcopy, o_clone, o_tsw, o_ldcS, o_kval, o_kcoder, o_klen, o_kald, o_tald, o_getSq, o_callk, o_callvH, gl, stl, stl2, pre2, va_rf, Value.category, catS, List.length_cons, List.length_nil, List.map_cons, List.map_nil, List.sum_cons, List.sum_nil, List.take_succ_cons, List.take_zero, List.drop_succ_cons, List.drop_zero, List.reverse_cons, List.reverse_nil, List.nil_append, List.cons_append, true_and, and_true, if_true, Nat.reduceAdd, Nat.reduceLT, Nat.reduceLeDiff]
  refine ⟨⟨hi, _, rfl, rfl⟩, sp_histInit u1 u2 hS7 A1s_V (by have := F0.2.2.1; have := F07.2.2.1; omega) (by have := F0.2.2.2; have := F07.2.2.2; omega) ?_⟩
  intro S8 sa ka na r hI F8
  have hhi0 : ¬ hi ∈ gL S0 := fun w => hhi6 (F06.1 hi w).1
  have F08 : Fr S0 S8 (fun t a => (t = 10 ∧ a = x) ∨ 100 ≤ t) 107 2998 := (F07.trans F8).mono (fun t a ha w => by
    rcases w with w | w | w
    · exact w
    · exact absurd (w.2 ▸ ha) hhi0
    · exact Or.inr w.1) (by decide) (by decide)
  have y8 := F08.1 x x1
  have x7 := F07.1 x x1
  have e8 := F8.2.1 10 x x7.1 (fun w => by omega)
  have hR8 := hR7.fr F8 (fun w => by omega) (fun t a w1 w2 => by rcases w1 with w | w | w | w <;> omega) (fun a w => by omega) (fun t a h1 h2 w => by omega)
  simp only [behN, e_X8_init_0, e_X8_init_1, e_X8_init_4, e_X8_init_5, e_X8_init_8, e_X8_init_10, e_X8_init_13, e_X8_init_14, e_X8_init_15, e_X8_init_18, e_X8_init_19, e_X8_init_20, e_X8_init_23, e_X8_init_24, e_X8_init_27, e_X8_init_28, e_X8_init_31, e_X8_init_34, e_X8_init_35, e_X8_init_36, e_X8_init_39, e_X8_init_40, e_X8_init_43, e_X8_init_44, e_X8_init_47, e_X8_init_50, e_X8_init_51, e_X8_init_54, e_X8_init_55, e_X8_init_58, e_X8_init_61, e_X8_init_62, e_X8_init_65, e_X8_init_66, e_X8_init_69, e_X8_init_72, e_X8_init_76, e_X8_init_79, e_X8_init_80, e_X8_init_81, e_X8_init_82, e_X8_init_83, e_X8_init_86, e_X8_init_87, e_X8_init_88, e_X8_init_89, e_X8_init_90, e_X8_init_93, e_X8_init_94, e_X8_init_98, e_X8_init_99, e_X8_init_102, e_X8_init_105, e_X8_init_106, e_X8_init_110, e_X8_init_111, e_X8_init_114, e_X8_init_117, o_const, o_iload, o_aload, o_fload, o_dload, o_istore, o_astore, o_fstore, o_dstore, o_iinc, o_bin, o_div, o_un, o_i2l, o_i2f, o_i2d, o_f2d, o_fdiv, o_ddiv, o_lcmp, o_fcmp, o_dcmp, o_if, o_if2, o_goto, o_dup, o_dupx1, o_dup2, o_pop, o_getI, o_getR, o_putI, o_putR, o_iald, o_iast, o_bald, o_bast, o_zald, o_zast, o_aald, o_aast, o_jald, o_jast, o_dald, o_dast, o_alen, o_castA, o_new, o_newa, o_callv, o_callvN, o_calli, o_calls, o_objinit, o_iret, o_zret, o_fret, o_dret, o_aret, o_vret, o_throw, o_acopy, o_bcopy, o_clone, o_tsw, o_ldcS, o_kval, o_kcoder, o_klen, o_kald, o_tald, o_getSq, o_callk, o_callvH, gl, stl, stl2, pre2, va_rf, Value.category, catS, List.length_cons, List.length_nil, List.map_cons, List.map_nil, List.sum_cons, List.sum_nil, List.take_succ_cons, List.take_zero, List.drop_succ_cons, List.drop_zero, List.reverse_cons, List.reverse_nil, List.nil_append, List.cons_append, true_and, and_true, if_true, Nat.reduceAdd, Nat.reduceLT, Nat.reduceLeDiff, y8.1, y8.2.1.trans x2, gL_sW, gL_sI, gL_sR, gL_sC, gL_nW, gK_sW, gK_sI, gK_sR, gK_sC, gK_nW, gN_sW, gN_sI, gN_sR, gN_sC, gN_nW, gC_sW, gC_sI, gC_sR, gC_sC, gC_nW, gZ_sW, gZ_sI, gZ_sR, gZ_sC, gZ_nW]
  have F9 := Fr.sR S8 10 x 4 (some hi)
  have F09 : Fr S0 (sR S8 10 x 4 (some hi)) (fun t a => (t = 10 ∧ a = x) ∨ 100 ≤ t) 107 2998 := (F08.trans F9).mono (fun t a _ w => w.elim id Or.inl) (by decide) (by decide)
  have hq : ∀ t, t < 100 → ¬ t = 10 → ∀ a, ¬ ((t = 10 ∧ a = x) ∨ 100 ≤ t) := fun t h1 h2 a w => by omega
  obtain ⟨i1, i2, i3, i4, ⟨v1, v2, v3, v4, v5, v6, v7, v8⟩⟩ := hI
  have hR8c := hR7
  obtain ⟨_, _, k8, n8, _, w1, w2, w3, w4, w5, w6, w7, w8, -, -, -, wK, wN, -⟩ := hR8c
  obtain ⟨_, _, _, _, wk, -⟩ := wK
  obtain ⟨_, _, wn, -⟩ := wN
  have hR9 := hR8.fr F9 (fun w => absurd w.1 (by decide)) (fun t a w1 w2 => by rcases w1 with w | w | w | w <;> omega) (fun a w => absurd w.1 (by decide)) (fun t a h1 h2 w => by omega)
  have e98 := F8.2.1 9 s8 w1 (fun w => by omega)
  refine h _ ⟨tx, hi, rp, sb, o0, o1, 0, upN sa 8 s8, upN ka 8 k8, upN na 8 n8, fun _ => 16, fun _ => C1s, ⟨(F9.1 x y8.1).1, (F9.1 x y8.1).2.1.trans (y8.2.1.trans x2), ?_, ?_, ?_, ?_, ?_, ?_, ?_, ?_, ?_, ?_⟩, hA.fr F09 (hq 60 (by decide) (by decide) _), ⟨Nat.zero_le _, fun k hk => absurd hk (Nat.not_lt_zero k)⟩, ⟨fun j hj => ?_, fun i j hi hj hij => ?_⟩, rfl, fun j hj => ?_, ?_, fun i hi => absurd hi (Nat.not_lt_zero i), hW.fr F09 (hq 4 (by decide) (by decide) _), Or.inl rfl, hB.fr F09 (hq 1 (by decide) (by decide) _) (hq 15 (by decide) (by decide)), ⟨hL0.fr F09 (hq 8 (by decide) (by decide) _) (hq 63 (by decide) (by decide)), hL1.fr F09 (hq 8 (by decide) (by decide) _) (hq 64 (by decide) (by decide)), hne, ⟨Nat.zero_le _, fun k hk => absurd hk (Nat.not_lt_zero k), Nat.zero_le _⟩, ⟨Nat.zero_le _, fun k hk => absurd hk (Nat.not_lt_zero k), Nat.zero_le _⟩⟩, ?_, ?_⟩ ((F0.trans F09).mono (fun t a _ w => w.elim Or.inl id) (by decide) (by decide))
  · rw [gR_sRk, if_neg (fun w => absurd w.2.2 (by decide)), e8.2.1, k _ (by decide)]; exact g0
  · rw [gI_sR, e8.1, kI]; exact g1
  · rw [gI_sR, e8.1, kI]; exact g2
  · rw [gR_sRk, if_neg (fun w => absurd w.2.2 (by decide)), e8.2.1]; exact k3
  · rw [gR_sRk, if_pos ⟨rfl, rfl, rfl⟩]
  · rw [gR_sRk, if_neg (fun w => absurd w.2.2 (by decide)), e8.2.1, k _ (by decide)]; exact g5
  · rw [gI_sR, e8.1, kI]; exact g6
  · rw [gR_sRk, if_neg (fun w => absurd w.2.2 (by decide)), e8.2.1, k _ (by decide)]; exact g7
  · rw [gR_sRk, if_neg (fun w => absurd w.2.2 (by decide)), e8.2.1, k _ (by decide)]; exact g8
  · rw [gR_sRk, if_neg (fun w => absurd w.2.2 (by decide)), e8.2.1, k _ (by decide)]; exact g9
  · by_cases e : j = 8
    · subst e
      simp only [upN, if_true]
      exact ⟨hR9, by rw [gR_sRk, if_neg (fun w => absurd w.1 (by decide)), e98.2.1]; exact w6, by rw [gR_sRk, if_neg (fun w => absurd w.1 (by decide)), e98.2.1]; exact w7⟩
    · simp only [upN, if_neg e]
      obtain ⟨j1, j2, j3⟩ := i1 j (by omega)
      exact ⟨j1.fr F9 (fun w => absurd w.1 (by decide)) (fun t a w1 w2 => by rcases w1 with w | w | w | w <;> omega) (fun a w => absurd w.1 (by decide)) (fun t a h1 h2 w => by omega), by rw [gR_sRk, if_neg (fun w => absurd w.1 (by decide))]; exact j2, by rw [gR_sRk, if_neg (fun w => absurd w.1 (by decide))]; exact j3⟩
  · by_cases e1 : i = 8
    · have e2 : ¬ j = 8 := fun z => hij (e1.trans z.symm)
      obtain ⟨j1, j2, j3⟩ := i3 j (by omega)
      simp only [upN, if_pos e1, if_neg e2]
      exact ⟨fun z => j1 (z ▸ w1), fun z => j2 (z ▸ wk), fun z => j3 (z ▸ wn)⟩
    · by_cases e2 : j = 8
      · obtain ⟨j1, j2, j3⟩ := i3 i (by omega)
        simp only [upN, if_neg e1, if_pos e2]
        exact ⟨fun z => j1 (z ▸ w1), fun z => j2 (z ▸ wk), fun z => j3 (z ▸ wn)⟩
      · simp only [upN, if_neg e1, if_neg e2]
        exact i2 i j (by omega) (by omega) hij
  · show StV 0 C1s
    refine ⟨by decide, fun k hk => ?_, by decide, fun k hk => absurd (show k < 0 from hk) (Nat.not_lt_zero k), fun j => by show (0 : Nat) ≤ 99999; decide⟩
    have : k = 0 := by have : k < 1 := hk; omega
    subst this; decide
  · exact ⟨r, (F9.1 hi v1).1, (F9.1 hi v1).2.1.trans v2, by rw [gI_sR]; exact v3, by rw [gI_sR]; exact v4, ⟨by decide, by decide⟩, by rw [gR_sRk, if_neg (fun w => absurd w.1 (by decide))]; exact v5, ⟨(F9.1 r v6).1, (F9.1 r v6).2.1.trans v7, (F9.1 r v6).2.2.trans v8⟩, fun j hj => by
      rw [gR_sRk, if_neg (fun w => absurd w.1 (by decide))]
      simp only [upN, if_neg (show ¬ j = 8 by omega)]
      exact i4 j hj⟩
  · have a := F0.2.2.1; have b := F09.2.2.1; omega
  · have a := F0.2.2.2; have b := F09.2.2.2; omega
end SPS
