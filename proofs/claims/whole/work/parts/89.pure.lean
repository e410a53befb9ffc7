/-! THE LAW: its start; the law's table, run from its entry, never comes to an answer but true -/
def S00 : M9 := (fun _ _ _ => 0, fun _ _ _ => none, fun _ _ => 0, fun _ _ => 0, fun _ => 0, fun _ => 0, [], 0, 0)
theorem pure_law {b L : Nat} {xs : Nat → Int32} (hL : L ≤ 3072) (ks : Nat → Nat) (hks : ¬ ks 11 = ks 10) : Run ks (WG ks 100) (fun _ _ => True) (tbL b L xs) 0 (entL [.ref b] 10) [] S00 := by
  show Run ks (WG ks 100) (fun _ _ => True) (tbL b L xs) 0 [some (.ref b), none, none, none, none, none, none, none, none, none] [] S00
  have n1 : ¬ (1 : Int32) < 0 := by decide
  have z1 : Int32.toNatClampNeg 1 = 1 := by decide
  have g0 : ∀ x, gC (nW S00 10 x 0 10) = 1 := fun _ => rfl
  have k0 : ∀ x, gZ (nW S00 10 x 0 10) = 10 := fun _ => rfl
  simp only [e_W_0, e_W_3, e_W_4, o_const, o_iload, o_aload, o_fload, o_dload, o_istore, o_astore, o_fstore, o_dstore, o_iinc, o_bin, o_div, o_un, o_i2l, o_i2f, o_i2d, o_f2d, o_fdiv, o_ddiv, o_lcmp, o_fcmp, o_dcmp, o_if, o_if2, o_goto, o_dup, o_dupx1, o_dup2, o_pop, o_getI, o_getR, o_putI, o_putR, o_iald, o_iast, o_bald, o_bast, o_zald, o_zast, o_aald, o_aast, o_jald, o_jast, o_dald, o_dast, o_alen, o_castA, o_new, o_newa, o_callv, o_callvN, o_calli, o_calls, o_objinit, o_iret, o_zret, o_fret, o_dret, o_aret, o_vret, o_throw, o_acopy, o_bcopy, o_clone, o_tsw, o_ldcS, o_kval, o_kcoder, o_klen, o_kald, o_tald, o_getSq, o_callk, o_callvH, gl, stl, stl2, pre2, va_rf, Value.category, catS, List.length_cons, List.length_nil, List.map_cons, List.map_nil, List.sum_cons, List.sum_nil, List.take_succ_cons, List.take_zero, List.drop_succ_cons, List.drop_zero, List.reverse_cons, List.reverse_nil, List.nil_append, List.cons_append, true_and, and_true, if_true, Nat.reduceAdd, Nat.reduceLT, Nat.reduceLeDiff]
  refine ⟨by decide, by decide, fun x hx => ⟨⟨x, _, rfl, rfl⟩, sp_tcInit (d := 94) (by rw [gL_nW]; exact List.mem_append_right _ (List.mem_singleton.mpr rfl)) (by rw [gK_nW, if_pos rfl]) (by rw [g0]; decide) (by rw [k0]; decide) (fun S2 hR F2 => ?_)⟩⟩
  have c2 := F2.2.2.1
  have y2 := F2.2.2.2
  rw [g0] at c2
  rw [k0] at y2
  simp only [behN, e_W_7, e_W_8, e_W_11, e_W_12, o_const, o_iload, o_aload, o_fload, o_dload, o_istore, o_astore, o_fstore, o_dstore, o_iinc, o_bin, o_div, o_un, o_i2l, o_i2f, o_i2d, o_f2d, o_fdiv, o_ddiv, o_lcmp, o_fcmp, o_dcmp, o_if, o_if2, o_goto, o_dup, o_dupx1, o_dup2, o_pop, o_getI, o_getR, o_putI, o_putR, o_iald, o_iast, o_bald, o_bast, o_zald, o_zast, o_aald, o_aast, o_jald, o_jast, o_dald, o_dast, o_alen, o_castA, o_new, o_newa, o_callv, o_callvN, o_calli, o_calls, o_objinit, o_iret, o_zret, o_fret, o_dret, o_aret, o_vret, o_throw, o_acopy, o_bcopy, o_clone, o_tsw, o_ldcS, o_kval, o_kcoder, o_klen, o_kald, o_tald, o_getSq, o_callk, o_callvH, gl, stl, stl2, pre2, va_rf, Value.category, catS, List.length_cons, List.length_nil, List.map_cons, List.map_nil, List.sum_cons, List.sum_nil, List.take_succ_cons, List.take_zero, List.drop_succ_cons, List.drop_zero, List.reverse_cons, List.reverse_nil, List.nil_append, List.cons_append, true_and, and_true, if_true, Nat.reduceAdd, Nat.reduceLT, Nat.reduceLeDiff]
  refine ⟨by unfold cCM; omega, by unfold cSM; omega, fun m hm => ?_⟩
  have F3 := Fr.nW S2 11 m 0 29 hm
  refine ⟨⟨m, _, rfl, rfl⟩, sp_mInit (d := 98) (by rw [gL_nW]; exact List.mem_append_right _ (List.mem_singleton.mpr rfl)) (by rw [gK_nW, if_pos rfl]) (fun j => by rw [gI_nW, if_pos ⟨rfl, rfl⟩]) (by rw [gC_nW]; unfold cCM; omega) (by rw [gZ_nW]; unfold cSM; omega) (fun S4 ad hM F4 => ?_)⟩
  have c4 := F4.2.2.1
  have y4 := F4.2.2.2
  rw [gC_nW] at c4
  rw [gZ_nW] at y4
  simp only [behN, e_W_15, e_W_16, e_W_17, o_const, o_iload, o_aload, o_fload, o_dload, o_istore, o_astore, o_fstore, o_dstore, o_iinc, o_bin, o_div, o_un, o_i2l, o_i2f, o_i2d, o_f2d, o_fdiv, o_ddiv, o_lcmp, o_fcmp, o_dcmp, o_if, o_if2, o_goto, o_dup, o_dupx1, o_dup2, o_pop, o_getI, o_getR, o_putI, o_putR, o_iald, o_iast, o_bald, o_bast, o_zald, o_zast, o_aald, o_aast, o_jald, o_jast, o_dald, o_dast, o_alen, o_castA, o_new, o_newa, o_callv, o_callvN, o_calli, o_calls, o_objinit, o_iret, o_zret, o_fret, o_dret, o_aret, o_vret, o_throw, o_acopy, o_bcopy, o_clone, o_tsw, o_ldcS, o_kval, o_kcoder, o_klen, o_kald, o_tald, o_getSq, o_callk, o_callvH, gl, stl, stl2, pre2, va_rf, Value.category, catS, List.length_cons, List.length_nil, List.map_cons, List.map_nil, List.sum_cons, List.sum_nil, List.take_succ_cons, List.take_zero, List.drop_succ_cons, List.drop_zero, List.reverse_cons, List.reverse_nil, List.nil_append, List.cons_append, true_and, and_true, if_true, Nat.reduceAdd, Nat.reduceLT, Nat.reduceLeDiff, z1]
  refine ⟨n1, by unfold cCM; omega, by unfold cSM; omega, 13, rfl, fun ol hol => ?_⟩
  have F5 := Fr.nW S4 13 ol 1 1 hol
  simp only [e_W_19, e_W_20, e_W_21, o_const, o_iload, o_aload, o_fload, o_dload, o_istore, o_astore, o_fstore, o_dstore, o_iinc, o_bin, o_div, o_un, o_i2l, o_i2f, o_i2d, o_f2d, o_fdiv, o_ddiv, o_lcmp, o_fcmp, o_dcmp, o_if, o_if2, o_goto, o_dup, o_dupx1, o_dup2, o_pop, o_getI, o_getR, o_putI, o_putR, o_iald, o_iast, o_bald, o_bast, o_zald, o_zast, o_aald, o_aast, o_jald, o_jast, o_dald, o_dast, o_alen, o_castA, o_new, o_newa, o_callv, o_callvN, o_calli, o_calls, o_objinit, o_iret, o_zret, o_fret, o_dret, o_aret, o_vret, o_throw, o_acopy, o_bcopy, o_clone, o_tsw, o_ldcS, o_kval, o_kcoder, o_klen, o_kald, o_tald, o_getSq, o_callk, o_callvH, gl, stl, stl2, pre2, va_rf, Value.category, catS, List.length_cons, List.length_nil, List.map_cons, List.map_nil, List.sum_cons, List.sum_nil, List.take_succ_cons, List.take_zero, List.drop_succ_cons, List.drop_zero, List.reverse_cons, List.reverse_nil, List.nil_append, List.cons_append, true_and, and_true, if_true, Nat.reduceAdd, Nat.reduceLT, Nat.reduceLeDiff, z1]
  refine ⟨n1, by rw [gC_nW]; unfold cCM; omega, by rw [gZ_nW]; unfold cSM; omega, 14, rfl, fun od hod => ?_⟩
  have F6 := Fr.nW (nW S4 13 ol 1 1) 14 od 1 1 hod
  have hne : ¬ ol = od := fun e => hod (by rw [gL_nW, ← e]; exact List.mem_append_right _ (List.mem_singleton.mpr rfl))
  simp only [e_W_23, e_W_25, e_W_26, o_const, o_iload, o_aload, o_fload, o_dload, o_istore, o_astore, o_fstore, o_dstore, o_iinc, o_bin, o_div, o_un, o_i2l, o_i2f, o_i2d, o_f2d, o_fdiv, o_ddiv, o_lcmp, o_fcmp, o_dcmp, o_if, o_if2, o_goto, o_dup, o_dupx1, o_dup2, o_pop, o_getI, o_getR, o_putI, o_putR, o_iald, o_iast, o_bald, o_bast, o_zald, o_zast, o_aald, o_aast, o_jald, o_jast, o_dald, o_dast, o_alen, o_castA, o_new, o_newa, o_callv, o_callvN, o_calli, o_calls, o_objinit, o_iret, o_zret, o_fret, o_dret, o_aret, o_vret, o_throw, o_acopy, o_bcopy, o_clone, o_tsw, o_ldcS, o_kval, o_kcoder, o_klen, o_kald, o_tald, o_getSq, o_callk, o_callvH, gl, stl, stl2, pre2, va_rf, Value.category, catS, List.length_cons, List.length_nil, List.map_cons, List.map_nil, List.sum_cons, List.sum_nil, List.take_succ_cons, List.take_zero, List.drop_succ_cons, List.drop_zero, List.reverse_cons, List.reverse_nil, List.nil_append, List.cons_append, true_and, and_true, if_true, Nat.reduceAdd, Nat.reduceLT, Nat.reduceLeDiff]
  refine w_loop (m := m) (ad := ad) hks hL L 0 0 _ _ _ _ _ rfl (by omega) (by omega) ?_
  have hRA := cr_fr hR (F3.trans (F4.trans (F5.trans F6))) (fun t a w => by
    rcases w with w | w | w | w
    · exact w.elim
    · unfold nX; exact Or.inl w.1
    · exact w.elim
    · exact w.elim)
  have hMA := hM.cls (F5.trans F6) (fun t a w => (w.elim id id).elim)
  refine ⟨_, _, _, _, _, _, _, _, _, _, _, _, _, _, hRA, hMA, ⟨fun b hb => absurd hb (Nat.not_lt_zero b), fun i hi => absurd hi (Nat.not_lt_zero i)⟩, ⟨⟨?_, ?_, ?_⟩, ?_, ?_, ?_⟩, by decide, by rw [g0]; decide, by rw [k0]; decide⟩
  · exact List.mem_append_left _ (List.mem_append_right _ (List.mem_singleton.mpr rfl))
  · rw [gK_nW, if_neg hne, gK_nW, if_pos rfl]
  · rw [gN_nW, if_neg hne, gN_nW, if_pos rfl]
  · exact List.mem_append_right _ (List.mem_singleton.mpr rfl)
  · rw [gK_nW, if_pos rfl]
  · rw [gN_nW, if_pos rfl]
