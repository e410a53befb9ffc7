/-! THE MODEL: keeps -/
section SPS
variable {ks : Nat → Nat} {d : Nat} {Q : QP} {S : M9} {m : Nat} {ad : Nat → Nat}
theorem sp_mShift_lp (hM : MS S m ad)
    (h : ∀ S', MS S' m ad → (∀ j, gI S' 41 (ad 1) j = if j < 148071 then gI S 41 (ad 1) (j + 21153) else gI S 41 (ad 1) j) → Fr S S' (fun t a => t = 41 ∧ a = ad 1) 0 0 → Run ks (WG ks d) Q tb_X9_keeps 39 [some (.ref m), some (.int (nI 148071))] [] S') :
    ∀ r k S', k + r = 148071 → MS S' m ad → (∀ j, gI S' 41 (ad 1) j = if j < k then gI S 41 (ad 1) (j + 21153) else gI S 41 (ad 1) j) → Fr S S' (fun t a => t = 41 ∧ a = ad 1) 0 0 →
      Run ks (WG ks d) Q tb_X9_keeps 11 [some (.ref m), some (.int (nI k))] [] S' := by
  intro r
  induction r with
  | zero =>
    intro k S' hk hM' hg hF
    have e : k = 148071 := by omega
    subst e
    rw [e_X9_keeps_11]
    simp only [e_X9_keeps_0, e_X9_keeps_1, e_X9_keeps_4, e_X9_keeps_6, e_X9_keeps_9, e_X9_keeps_10, e_X9_keeps_12, e_X9_keeps_14, e_X9_keeps_17, e_X9_keeps_18, e_X9_keeps_21, e_X9_keeps_22, e_X9_keeps_23, e_X9_keeps_26, e_X9_keeps_27, e_X9_keeps_30, e_X9_keeps_31, e_X9_keeps_32, e_X9_keeps_33, e_X9_keeps_36, e_X9_keeps_40, e_X9_keeps_41, e_X9_keeps_44, e_X9_keeps_45, e_X9_keeps_46, e_X9_keeps_49, e_X9_keeps_50, e_X9_keeps_51, e_X9_keeps_52, e_X9_keeps_53, e_X9_keeps_56, e_X9_keeps_59, e_X9_keeps_60, e_X9_keeps_63, e_X9_keeps_66, e_X9_keeps_67, e_X9_keeps_70, e_X9_keeps_71, e_X9_keeps_72, e_X9_keeps_73, e_X9_keeps_74, e_X9_keeps_77, e_X9_keeps_78, e_X9_keeps_79, e_X9_keeps_80, e_X9_keeps_83, e_X9_keeps_86, e_X9_keeps_87, e_X9_keeps_88, e_X9_keeps_91, e_X9_keeps_92, e_X9_keeps_93, e_X9_keeps_96, o_const, o_iload, o_aload, o_fload, o_dload, o_istore, o_astore, o_fstore, o_dstore, o_iinc, o_bin, o_div, o_un, o_i2l, o_i2f, o_i2d, o_f2d, o_fdiv, o_ddiv, o_lcmp, o_fcmp, o_dcmp, o_if, o_if2, o_goto, o_dup, o_dupx1, o_dup2, o_pop, o_getI, o_getR, o_putI, o_putR, o_iald, o_iast, o_bald, o_bast, o_zald, o_zast, o_aald, o_aast, o_jald, o_jast, o_dald, o_dast, o_alen, o_castA, o_new, o_newa, o_callv, o_callvN, o_calli, o_calls, o_objinit, o_iret, o_zret, o_fret, o_dret, o_aret, o_vret, o_throw, o_acopy, o_bcopy, o_clone, o_tsw, o_ldcS, o_kval, o_kcoder, o_klen, o_kald, o_tald, o_getSq, o_callk, o_callvH, gl, stl, stl2, pre2, va_rf, Value.category, catS, List.length_cons, List.length_nil, List.map_cons, List.map_nil, List.sum_cons, List.sum_nil, List.take_succ_cons, List.take_zero, List.drop_succ_cons, List.drop_zero, List.reverse_cons, List.reverse_nil, List.nil_append, List.cons_append, true_and, and_true, if_true, Nat.reduceAdd, Nat.reduceLT, Nat.reduceLeDiff]
    exact ⟨fun _ => h S' hM' hg hF, fun c => absurd (nI_le (Nat.le_refl 148071) (by decide)) c⟩
  | succ r ih =>
    intro k S' hk hM' hg hF
    have hMc := hM'
    obtain ⟨⟨m1, m2⟩, -, ⟨a1, a2, a3, a4⟩, -⟩ := hMc
    have e1 : nI k + 21153 = nI (k + 21153) := by rw [show (21153 : Int32) = nI 21153 from rfl, nI_add]
    have c1 : (nI (k + 21153)).toNatClampNeg = k + 21153 := nI_clamp (by omega)
    have c2 : (nI k).toNatClampNeg = k := nI_clamp (by omega)
    have hv : gI S' 41 (ad 1) (k + 21153) = gI S 41 (ad 1) (k + 21153) := by rw [hg, if_neg (by omega)]
    rw [e_X9_keeps_11]
    simp only [e_X9_keeps_0, e_X9_keeps_1, e_X9_keeps_4, e_X9_keeps_6, e_X9_keeps_9, e_X9_keeps_10, e_X9_keeps_12, e_X9_keeps_14, e_X9_keeps_17, e_X9_keeps_18, e_X9_keeps_21, e_X9_keeps_22, e_X9_keeps_23, e_X9_keeps_26, e_X9_keeps_27, e_X9_keeps_30, e_X9_keeps_31, e_X9_keeps_32, e_X9_keeps_33, e_X9_keeps_36, e_X9_keeps_40, e_X9_keeps_41, e_X9_keeps_44, e_X9_keeps_45, e_X9_keeps_46, e_X9_keeps_49, e_X9_keeps_50, e_X9_keeps_51, e_X9_keeps_52, e_X9_keeps_53, e_X9_keeps_56, e_X9_keeps_59, e_X9_keeps_60, e_X9_keeps_63, e_X9_keeps_66, e_X9_keeps_67, e_X9_keeps_70, e_X9_keeps_71, e_X9_keeps_72, e_X9_keeps_73, e_X9_keeps_74, e_X9_keeps_77, e_X9_keeps_78, e_X9_keeps_79, e_X9_keeps_80, e_X9_keeps_83, e_X9_keeps_86, e_X9_keeps_87, e_X9_keeps_88, e_X9_keeps_91, e_X9_keeps_92, e_X9_keeps_93, e_X9_keeps_96, o_const, o_iload, o_aload, o_fload, o_dload, o_istore, o_astore, o_fstore, o_dstore, o_iinc, o_bin, o_div, o_un, o_i2l, o_i2f, o_i2d, o_f2d, o_fdiv, o_ddiv, o_lcmp, o_fcmp, o_dcmp, o_if, o_if2, o_goto, o_dup, o_dupx1, o_dup2, o_pop, o_getI, o_getR, o_putI, o_putR, o_iald, o_iast, o_bald, o_bast, o_zald, o_zast, o_aald, o_aast, o_jald, o_jast, o_dald, o_dast, o_alen, o_castA, o_new, o_newa, o_callv, o_callvN, o_calli, o_calls, o_objinit, o_iret, o_zret, o_fret, o_dret, o_aret, o_vret, o_throw, o_acopy, o_bcopy, o_clone, o_tsw, o_ldcS, o_kval, o_kcoder, o_klen, o_kald, o_tald, o_getSq, o_callk, o_callvH, gl, stl, stl2, pre2, va_rf, Value.category, catS, List.length_cons, List.length_nil, List.map_cons, List.map_nil, List.sum_cons, List.sum_nil, List.take_succ_cons, List.take_zero, List.drop_succ_cons, List.drop_zero, List.reverse_cons, List.reverse_nil, List.nil_append, List.cons_append, true_and, and_true, if_true, Nat.reduceAdd, Nat.reduceLT, Nat.reduceLeDiff, m1, m2, a1, a2, a3, a4, e1, c1, c2, hv, nI_1]
    have F2 := Fr.sI S' 41 (ad 1) k (gI S 41 (ad 1) (k + 21153))
    refine ⟨fun c => absurd ((nI_leI (a := 148071) (by decide) (by omega)).mp c) (by omega), fun _ => ⟨vp_in_nI (by omega) (by decide), vp_in_nI (by omega) (by decide), ih (k + 1) _ (by omega) (hM'.fr F2 (by rw [gR_sI])) (fun j => ?_) ((hF.trans F2).mono (fun _ _ _ w => w.elim id id) (by decide) (by decide))⟩⟩
    rw [gI_sIk]
    by_cases e : j = k
    · subst e; rw [if_pos ⟨rfl, rfl, rfl⟩, if_pos (by omega)]
    · rw [if_neg (fun w => e w.2.2), hg j]
      by_cases c : j < k
      · rw [if_pos c, if_pos (by omega)]
      · rw [if_neg c, if_neg (by omega)]
theorem sp_mCopy_lp (hM : MS S m ad) {n q : Nat} (hn : n ≤ 10000) (hq : q ≤ 7) (g4 : gI S 40 (ad 0) 4 = nI n) (g5 : gI S 11 m 5 = nI q)
    (h : ∀ S', MS S' m ad → (∀ j, gI S' 41 (ad 1) j = if 21153 * q ≤ j ∧ j < 21153 * q + (691 + 2 * n) then gI S 40 (ad 0) (j - 21153 * q) else gI S 41 (ad 1) j) → Fr S S' (fun t a => t = 41 ∧ a = ad 1) 0 0 → Run ks (WG ks (d + 1)) Q tb_X9_keeps 86 [some (.ref m), some (.int (nI (691 + 2 * n)))] [] S') :
    ∀ r k S', k + r = 691 + 2 * n → MS S' m ad → (∀ j, gI S' 41 (ad 1) j = if 21153 * q ≤ j ∧ j < 21153 * q + k then gI S 40 (ad 0) (j - 21153 * q) else gI S 41 (ad 1) j) → Fr S S' (fun t a => t = 41 ∧ a = ad 1) 0 0 →
      Run ks (WG ks (d + 1)) Q tb_X9_keeps 51 [some (.ref m), some (.int (nI k))] [] S' := by
  intro r
  have h0m := hM.1.1
  have h0a := hM.2.1.2.1
  induction r with
  | zero =>
    intro k S' hk hM' hg hF
    have e : k = 691 + 2 * n := by omega
    subst e
    have hMc := hM'
    obtain ⟨⟨m1, m2⟩, -⟩ := hMc
    have g4' : gI S' 40 (ad 0) 4 = nI n := by rw [(hF.2.1 40 (ad 0) h0a (fun w => absurd w.1 (by decide))).1]; exact g4
    rw [e_X9_keeps_51]
    simp only [e_X9_keeps_0, e_X9_keeps_1, e_X9_keeps_4, e_X9_keeps_6, e_X9_keeps_9, e_X9_keeps_10, e_X9_keeps_11, e_X9_keeps_12, e_X9_keeps_14, e_X9_keeps_17, e_X9_keeps_18, e_X9_keeps_21, e_X9_keeps_22, e_X9_keeps_23, e_X9_keeps_26, e_X9_keeps_27, e_X9_keeps_30, e_X9_keeps_31, e_X9_keeps_32, e_X9_keeps_33, e_X9_keeps_36, e_X9_keeps_39, e_X9_keeps_40, e_X9_keeps_41, e_X9_keeps_44, e_X9_keeps_45, e_X9_keeps_46, e_X9_keeps_49, e_X9_keeps_50, e_X9_keeps_52, e_X9_keeps_53, e_X9_keeps_56, e_X9_keeps_59, e_X9_keeps_60, e_X9_keeps_63, e_X9_keeps_66, e_X9_keeps_67, e_X9_keeps_70, e_X9_keeps_71, e_X9_keeps_72, e_X9_keeps_73, e_X9_keeps_74, e_X9_keeps_77, e_X9_keeps_78, e_X9_keeps_79, e_X9_keeps_80, e_X9_keeps_83, e_X9_keeps_87, e_X9_keeps_88, e_X9_keeps_91, e_X9_keeps_92, e_X9_keeps_93, e_X9_keeps_96, o_const, o_iload, o_aload, o_fload, o_dload, o_istore, o_astore, o_fstore, o_dstore, o_iinc, o_bin, o_div, o_un, o_i2l, o_i2f, o_i2d, o_f2d, o_fdiv, o_ddiv, o_lcmp, o_fcmp, o_dcmp, o_if, o_if2, o_goto, o_dup, o_dupx1, o_dup2, o_pop, o_getI, o_getR, o_putI, o_putR, o_iald, o_iast, o_bald, o_bast, o_zald, o_zast, o_aald, o_aast, o_jald, o_jast, o_dald, o_dast, o_alen, o_castA, o_new, o_newa, o_callv, o_callvN, o_calli, o_calls, o_objinit, o_iret, o_zret, o_fret, o_dret, o_aret, o_vret, o_throw, o_acopy, o_bcopy, o_clone, o_tsw, o_ldcS, o_kval, o_kcoder, o_klen, o_kald, o_tald, o_getSq, o_callk, o_callvH, gl, stl, stl2, pre2, va_rf, Value.category, catS, List.length_cons, List.length_nil, List.map_cons, List.map_nil, List.sum_cons, List.sum_nil, List.take_succ_cons, List.take_zero, List.drop_succ_cons, List.drop_zero, List.reverse_cons, List.reverse_nil, List.nil_append, List.cons_append, true_and, and_true, if_true, Nat.reduceAdd, Nat.reduceLT, Nat.reduceLeDiff, m1, m2]
    refine ⟨⟨m, _, rfl, rfl, m1, m2⟩, sp_mUsed hM' g4' ?_⟩
    simp only [behind, e_X9_keeps_0, e_X9_keeps_1, e_X9_keeps_4, e_X9_keeps_6, e_X9_keeps_9, e_X9_keeps_10, e_X9_keeps_11, e_X9_keeps_12, e_X9_keeps_14, e_X9_keeps_17, e_X9_keeps_18, e_X9_keeps_21, e_X9_keeps_22, e_X9_keeps_23, e_X9_keeps_26, e_X9_keeps_27, e_X9_keeps_30, e_X9_keeps_31, e_X9_keeps_32, e_X9_keeps_33, e_X9_keeps_36, e_X9_keeps_39, e_X9_keeps_40, e_X9_keeps_41, e_X9_keeps_44, e_X9_keeps_45, e_X9_keeps_46, e_X9_keeps_49, e_X9_keeps_50, e_X9_keeps_52, e_X9_keeps_53, e_X9_keeps_56, e_X9_keeps_59, e_X9_keeps_60, e_X9_keeps_63, e_X9_keeps_66, e_X9_keeps_67, e_X9_keeps_70, e_X9_keeps_71, e_X9_keeps_72, e_X9_keeps_73, e_X9_keeps_74, e_X9_keeps_77, e_X9_keeps_78, e_X9_keeps_79, e_X9_keeps_80, e_X9_keeps_83, e_X9_keeps_87, e_X9_keeps_88, e_X9_keeps_91, e_X9_keeps_92, e_X9_keeps_93, e_X9_keeps_96, o_const, o_iload, o_aload, o_fload, o_dload, o_istore, o_astore, o_fstore, o_dstore, o_iinc, o_bin, o_div, o_un, o_i2l, o_i2f, o_i2d, o_f2d, o_fdiv, o_ddiv, o_lcmp, o_fcmp, o_dcmp, o_if, o_if2, o_goto, o_dup, o_dupx1, o_dup2, o_pop, o_getI, o_getR, o_putI, o_putR, o_iald, o_iast, o_bald, o_bast, o_zald, o_zast, o_aald, o_aast, o_jald, o_jast, o_dald, o_dast, o_alen, o_castA, o_new, o_newa, o_callv, o_callvN, o_calli, o_calls, o_objinit, o_iret, o_zret, o_fret, o_dret, o_aret, o_vret, o_throw, o_acopy, o_bcopy, o_clone, o_tsw, o_ldcS, o_kval, o_kcoder, o_klen, o_kald, o_tald, o_getSq, o_callk, o_callvH, gl, stl, stl2, pre2, va_rf, Value.category, catS, List.length_cons, List.length_nil, List.map_cons, List.map_nil, List.sum_cons, List.sum_nil, List.take_succ_cons, List.take_zero, List.drop_succ_cons, List.drop_zero, List.reverse_cons, List.reverse_nil, List.nil_append, List.cons_append, true_and, and_true, if_true, Nat.reduceAdd, Nat.reduceLT, Nat.reduceLeDiff]
    exact ⟨fun _ => h S' hM' hg hF, fun c => absurd (nI_le (Nat.le_refl _) (by omega)) c⟩
  | succ r ih =>
    intro k S' hk hM' hg hF
    have hMc := hM'
    obtain ⟨⟨m1, m2⟩, ⟨b1, b2, b3, b4⟩, ⟨a1, a2, a3, a4⟩, -⟩ := hMc
    have eA := (hF.2.1 40 (ad 0) h0a (fun w => absurd w.1 (by decide))).1
    have e5 := (hF.2.1 11 m h0m (fun w => absurd w.1 (by decide))).1
    have g4' : gI S' 40 (ad 0) 4 = nI n := by rw [eA]; exact g4
    have g5' : gI S' 11 m 5 = nI q := by rw [e5]; exact g5
    have e1 : (21153 : Int32) * nI q + nI k = nI (21153 * q + k) := by rw [show (21153 : Int32) = nI 21153 from rfl, pk_mul, nI_add]
    have c1 : (nI (21153 * q + k)).toNatClampNeg = 21153 * q + k := nI_clamp (by omega)
    have c2 : (nI k).toNatClampNeg = k := nI_clamp (by omega)
    have hv : gI S' 40 (ad 0) k = gI S 40 (ad 0) k := by rw [eA]
    rw [e_X9_keeps_51]
    simp only [e_X9_keeps_0, e_X9_keeps_1, e_X9_keeps_4, e_X9_keeps_6, e_X9_keeps_9, e_X9_keeps_10, e_X9_keeps_11, e_X9_keeps_12, e_X9_keeps_14, e_X9_keeps_17, e_X9_keeps_18, e_X9_keeps_21, e_X9_keeps_22, e_X9_keeps_23, e_X9_keeps_26, e_X9_keeps_27, e_X9_keeps_30, e_X9_keeps_31, e_X9_keeps_32, e_X9_keeps_33, e_X9_keeps_36, e_X9_keeps_39, e_X9_keeps_40, e_X9_keeps_41, e_X9_keeps_44, e_X9_keeps_45, e_X9_keeps_46, e_X9_keeps_49, e_X9_keeps_50, e_X9_keeps_52, e_X9_keeps_53, e_X9_keeps_56, e_X9_keeps_59, e_X9_keeps_60, e_X9_keeps_63, e_X9_keeps_66, e_X9_keeps_67, e_X9_keeps_70, e_X9_keeps_71, e_X9_keeps_72, e_X9_keeps_73, e_X9_keeps_74, e_X9_keeps_77, e_X9_keeps_78, e_X9_keeps_79, e_X9_keeps_80, e_X9_keeps_83, e_X9_keeps_87, e_X9_keeps_88, e_X9_keeps_91, e_X9_keeps_92, e_X9_keeps_93, e_X9_keeps_96, o_const, o_iload, o_aload, o_fload, o_dload, o_istore, o_astore, o_fstore, o_dstore, o_iinc, o_bin, o_div, o_un, o_i2l, o_i2f, o_i2d, o_f2d, o_fdiv, o_ddiv, o_lcmp, o_fcmp, o_dcmp, o_if, o_if2, o_goto, o_dup, o_dupx1, o_dup2, o_pop, o_getI, o_getR, o_putI, o_putR, o_iald, o_iast, o_bald, o_bast, o_zald, o_zast, o_aald, o_aast, o_jald, o_jast, o_dald, o_dast, o_alen, o_castA, o_new, o_newa, o_callv, o_callvN, o_calli, o_calls, o_objinit, o_iret, o_zret, o_fret, o_dret, o_aret, o_vret, o_throw, o_acopy, o_bcopy, o_clone, o_tsw, o_ldcS, o_kval, o_kcoder, o_klen, o_kald, o_tald, o_getSq, o_callk, o_callvH, gl, stl, stl2, pre2, va_rf, Value.category, catS, List.length_cons, List.length_nil, List.map_cons, List.map_nil, List.sum_cons, List.sum_nil, List.take_succ_cons, List.take_zero, List.drop_succ_cons, List.drop_zero, List.reverse_cons, List.reverse_nil, List.nil_append, List.cons_append, true_and, and_true, if_true, Nat.reduceAdd, Nat.reduceLT, Nat.reduceLeDiff, m1, m2]
    refine ⟨⟨m, _, rfl, rfl, m1, m2⟩, sp_mUsed hM' g4' ?_⟩
    simp only [behind, e_X9_keeps_0, e_X9_keeps_1, e_X9_keeps_4, e_X9_keeps_6, e_X9_keeps_9, e_X9_keeps_10, e_X9_keeps_11, e_X9_keeps_12, e_X9_keeps_14, e_X9_keeps_17, e_X9_keeps_18, e_X9_keeps_21, e_X9_keeps_22, e_X9_keeps_23, e_X9_keeps_26, e_X9_keeps_27, e_X9_keeps_30, e_X9_keeps_31, e_X9_keeps_32, e_X9_keeps_33, e_X9_keeps_36, e_X9_keeps_39, e_X9_keeps_40, e_X9_keeps_41, e_X9_keeps_44, e_X9_keeps_45, e_X9_keeps_46, e_X9_keeps_49, e_X9_keeps_50, e_X9_keeps_52, e_X9_keeps_53, e_X9_keeps_56, e_X9_keeps_59, e_X9_keeps_60, e_X9_keeps_63, e_X9_keeps_66, e_X9_keeps_67, e_X9_keeps_70, e_X9_keeps_71, e_X9_keeps_72, e_X9_keeps_73, e_X9_keeps_74, e_X9_keeps_77, e_X9_keeps_78, e_X9_keeps_79, e_X9_keeps_80, e_X9_keeps_83, e_X9_keeps_87, e_X9_keeps_88, e_X9_keeps_91, e_X9_keeps_92, e_X9_keeps_93, e_X9_keeps_96, o_const, o_iload, o_aload, o_fload, o_dload, o_istore, o_astore, o_fstore, o_dstore, o_iinc, o_bin, o_div, o_un, o_i2l, o_i2f, o_i2d, o_f2d, o_fdiv, o_ddiv, o_lcmp, o_fcmp, o_dcmp, o_if, o_if2, o_goto, o_dup, o_dupx1, o_dup2, o_pop, o_getI, o_getR, o_putI, o_putR, o_iald, o_iast, o_bald, o_bast, o_zald, o_zast, o_aald, o_aast, o_jald, o_jast, o_dald, o_dast, o_alen, o_castA, o_new, o_newa, o_callv, o_callvN, o_calli, o_calls, o_objinit, o_iret, o_zret, o_fret, o_dret, o_aret, o_vret, o_throw, o_acopy, o_bcopy, o_clone, o_tsw, o_ldcS, o_kval, o_kcoder, o_klen, o_kald, o_tald, o_getSq, o_callk, o_callvH, gl, stl, stl2, pre2, va_rf, Value.category, catS, List.length_cons, List.length_nil, List.map_cons, List.map_nil, List.sum_cons, List.sum_nil, List.take_succ_cons, List.take_zero, List.drop_succ_cons, List.drop_zero, List.reverse_cons, List.reverse_nil, List.nil_append, List.cons_append, true_and, and_true, if_true, Nat.reduceAdd, Nat.reduceLT, Nat.reduceLeDiff, m1, m2, a1, a2, a3, a4, b1, b2, b3, b4, g5', e1, c1, c2, hv, nI_1]
    have F2 := Fr.sI S' 41 (ad 1) (21153 * q + k) (gI S 40 (ad 0) k)
    refine ⟨fun c => absurd ((nI_leI (by omega) (by omega)).mp c) (by omega), fun _ => ⟨vp_in_nI (by omega) (by decide), vp_in_nI (by omega) (by decide), ih (k + 1) _ (by omega) (hM'.fr F2 (by rw [gR_sI])) (fun j => ?_) ((hF.trans F2).mono (fun _ _ _ w => w.elim id id) (by decide) (by decide))⟩⟩
    rw [gI_sIk]
    by_cases e : j = 21153 * q + k
    · rw [if_pos ⟨rfl, rfl, e⟩, if_pos (by omega), show j - 21153 * q = k by omega]
    · rw [if_neg (fun w => e w.2.2), hg j]
      by_cases c : 21153 * q ≤ j ∧ j < 21153 * q + k
      · rw [if_pos c, if_pos (by omega)]
      · rw [if_neg c, if_neg (by omega)]
end SPS
