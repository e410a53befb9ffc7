/-! THE TEXT WRITTEN: a number -/
/-- how many digits a number below 100000 has -/
def ndg (v : Nat) : Nat := if v < 10 then 1 else if v < 100 then 2 else if v < 1000 then 3 else if v < 10000 then 4 else 5
section SPS
variable {ks : Nat → Nat} {d : Nat} {Q : QP} {S : M9} {sb n : Nat} {W : Nat → Int32}
theorem ng_le {a b : Nat} (ha : a < 2 ^ 30) (hb : b < 2 ^ 30) : (-nI a ≤ -nI b) ↔ b ≤ a := by
  rw [Int32.le_iff_toInt_le]
  have h1 : (-nI a).toInt = -(a : Int) := by rw [← Int32.zero_sub, ← nI_0, pk_sub_toInt (by decide) ha]; omega
  have h2 : (-nI b).toInt = -(b : Int) := by rw [← Int32.zero_sub, ← nI_0, pk_sub_toInt (by decide) hb]; omega
  rw [h1, h2]; omega
theorem sp_strSize {v : Nat} (hv : v ≤ 99999) (h : Q (.inl (some (.int (nI (ndg v))))) S) : WG ks (d + 1) n_J6_stringSize_0f7a4 [.int (nI v)] S Q := by
  refine ⟨by simp [cat1, Value.category], by show (1 : Nat) ≤ 4; decide, ?_⟩
  show Run ks (WG ks d) Q tb_J6_stringSize_0f7a4 0 [some (.int (nI v)), none, none, none] [] S
  have c1 : (-10 : Int32) = -nI 10 := rfl
  have c2 : (10 : Int32) * (-10) = -nI 100 := by decide
  have c3 : (10 : Int32) * -nI 100 = -nI 1000 := by decide
  have c4 : (10 : Int32) * -nI 1000 = -nI 10000 := by decide
  have c5 : (10 : Int32) * -nI 10000 = -nI 100000 := by decide
  have e1 := ng_le (a := v) (b := 10) (by omega) (by decide)
  have e2 := ng_le (a := v) (b := 100) (by omega) (by decide)
  have e3 := ng_le (a := v) (b := 1000) (by omega) (by decide)
  have e4 := ng_le (a := v) (b := 10000) (by omega) (by decide)
  have e5 := ng_le (a := v) (b := 100000) (by omega) (by decide)
  unfold ndg at h
  simp only [e_J6_stringSize_0f7a4_0, e_J6_stringSize_0f7a4_1, e_J6_stringSize_0f7a4_2, e_J6_stringSize_0f7a4_3, e_J6_stringSize_0f7a4_6, e_J6_stringSize_0f7a4_7, e_J6_stringSize_0f7a4_8, e_J6_stringSize_0f7a4_9, e_J6_stringSize_0f7a4_10, e_J6_stringSize_0f7a4_11, e_J6_stringSize_0f7a4_13, e_J6_stringSize_0f7a4_14, e_J6_stringSize_0f7a4_15, e_J6_stringSize_0f7a4_17, e_J6_stringSize_0f7a4_19, e_J6_stringSize_0f7a4_22, e_J6_stringSize_0f7a4_23, e_J6_stringSize_0f7a4_24, e_J6_stringSize_0f7a4_27, e_J6_stringSize_0f7a4_28, e_J6_stringSize_0f7a4_29, e_J6_stringSize_0f7a4_30, e_J6_stringSize_0f7a4_31, e_J6_stringSize_0f7a4_33, e_J6_stringSize_0f7a4_34, e_J6_stringSize_0f7a4_35, e_J6_stringSize_0f7a4_36, e_J6_stringSize_0f7a4_39, e_J6_stringSize_0f7a4_42, e_J6_stringSize_0f7a4_44, e_J6_stringSize_0f7a4_45, e_J6_stringSize_0f7a4_46, o_const, o_iload, o_aload, o_fload, o_dload, o_istore, o_astore, o_fstore, o_dstore, o_iinc, o_bin, o_div, o_un, o_i2l, o_i2f, o_i2d, o_f2d, o_fdiv, o_ddiv, o_lcmp, o_fcmp, o_dcmp, o_if, o_if2, o_goto, o_dup, o_dupx1, o_dup2, o_pop, o_getI, o_getR, o_putI, o_putR, o_iald, o_iast, o_bald, o_bast, o_zald, o_zast, o_aald, o_aast, o_jald, o_jast, o_dald, o_dast, o_alen, o_castA, o_new, o_newa, o_callv, o_callvN, o_calli, o_calls, o_objinit, o_iret, o_zret, o_fret, o_dret, o_aret, o_vret, o_throw, o_acopy, o_bcopy, o_clone, o_tsw, o_ldcS, o_kval, o_kcoder, o_klen, o_kald, o_tald, o_getSq, o_callk, o_callvH, gl, stl, stl2, pre2, va_rf, Value.category, catS, List.length_cons, List.length_nil, List.map_cons, List.map_nil, List.sum_cons, List.sum_nil, List.take_succ_cons, List.take_zero, List.drop_succ_cons, List.drop_zero, List.reverse_cons, List.reverse_nil, List.nil_append, List.cons_append, true_and, and_true, if_true, Nat.reduceAdd, Nat.reduceLT, Nat.reduceLeDiff]
  refine ⟨fun z => absurd z (nI_pos (by omega)), fun _ => ?_⟩
  rw [e_J6_stringSize_0f7a4_16]
  simp only [e_J6_stringSize_0f7a4_0, e_J6_stringSize_0f7a4_1, e_J6_stringSize_0f7a4_2, e_J6_stringSize_0f7a4_3, e_J6_stringSize_0f7a4_6, e_J6_stringSize_0f7a4_7, e_J6_stringSize_0f7a4_8, e_J6_stringSize_0f7a4_9, e_J6_stringSize_0f7a4_10, e_J6_stringSize_0f7a4_11, e_J6_stringSize_0f7a4_13, e_J6_stringSize_0f7a4_14, e_J6_stringSize_0f7a4_15, e_J6_stringSize_0f7a4_17, e_J6_stringSize_0f7a4_19, e_J6_stringSize_0f7a4_22, e_J6_stringSize_0f7a4_23, e_J6_stringSize_0f7a4_24, e_J6_stringSize_0f7a4_27, e_J6_stringSize_0f7a4_28, e_J6_stringSize_0f7a4_29, e_J6_stringSize_0f7a4_30, e_J6_stringSize_0f7a4_31, e_J6_stringSize_0f7a4_33, e_J6_stringSize_0f7a4_34, e_J6_stringSize_0f7a4_35, e_J6_stringSize_0f7a4_36, e_J6_stringSize_0f7a4_39, e_J6_stringSize_0f7a4_42, e_J6_stringSize_0f7a4_44, e_J6_stringSize_0f7a4_45, e_J6_stringSize_0f7a4_46, o_const, o_iload, o_aload, o_fload, o_dload, o_istore, o_astore, o_fstore, o_dstore, o_iinc, o_bin, o_div, o_un, o_i2l, o_i2f, o_i2d, o_f2d, o_fdiv, o_ddiv, o_lcmp, o_fcmp, o_dcmp, o_if, o_if2, o_goto, o_dup, o_dupx1, o_dup2, o_pop, o_getI, o_getR, o_putI, o_putR, o_iald, o_iast, o_bald, o_bast, o_zald, o_zast, o_aald, o_aast, o_jald, o_jast, o_dald, o_dast, o_alen, o_castA, o_new, o_newa, o_callv, o_callvN, o_calli, o_calls, o_objinit, o_iret, o_zret, o_fret, o_dret, o_aret, o_vret, o_throw, o_acopy, o_bcopy, o_clone, o_tsw, o_ldcS, o_kval, o_kcoder, o_klen, o_kald, o_tald, o_getSq, o_callk, o_callvH, gl, stl, stl2, pre2, va_rf, Value.category, catS, List.length_cons, List.length_nil, List.map_cons, List.map_nil, List.sum_cons, List.sum_nil, List.take_succ_cons, List.take_zero, List.drop_succ_cons, List.drop_zero, List.reverse_cons, List.reverse_nil, List.nil_append, List.cons_append, true_and, and_true, if_true, Nat.reduceAdd, Nat.reduceLT, Nat.reduceLeDiff]
  refine ⟨fun z => absurd z (by decide), fun _ => ⟨fun z => ?_, fun z => ?_⟩⟩
  rotate_left
  · rw [if_pos (Nat.lt_of_not_le (fun w => z (e1.mpr w)))] at h
    exact h
  have z1 := e1.mp z
  rw [if_neg (by omega)] at h
  rw [c2, e_J6_stringSize_0f7a4_16]
  simp only [e_J6_stringSize_0f7a4_0, e_J6_stringSize_0f7a4_1, e_J6_stringSize_0f7a4_2, e_J6_stringSize_0f7a4_3, e_J6_stringSize_0f7a4_6, e_J6_stringSize_0f7a4_7, e_J6_stringSize_0f7a4_8, e_J6_stringSize_0f7a4_9, e_J6_stringSize_0f7a4_10, e_J6_stringSize_0f7a4_11, e_J6_stringSize_0f7a4_13, e_J6_stringSize_0f7a4_14, e_J6_stringSize_0f7a4_15, e_J6_stringSize_0f7a4_17, e_J6_stringSize_0f7a4_19, e_J6_stringSize_0f7a4_22, e_J6_stringSize_0f7a4_23, e_J6_stringSize_0f7a4_24, e_J6_stringSize_0f7a4_27, e_J6_stringSize_0f7a4_28, e_J6_stringSize_0f7a4_29, e_J6_stringSize_0f7a4_30, e_J6_stringSize_0f7a4_31, e_J6_stringSize_0f7a4_33, e_J6_stringSize_0f7a4_34, e_J6_stringSize_0f7a4_35, e_J6_stringSize_0f7a4_36, e_J6_stringSize_0f7a4_39, e_J6_stringSize_0f7a4_42, e_J6_stringSize_0f7a4_44, e_J6_stringSize_0f7a4_45, e_J6_stringSize_0f7a4_46, o_const, o_iload, o_aload, o_fload, o_dload, o_istore, o_astore, o_fstore, o_dstore, o_iinc, o_bin, o_div, o_un, o_i2l, o_i2f, o_i2d, o_f2d, o_fdiv, o_ddiv, o_lcmp, o_fcmp, o_dcmp, o_if, o_if2, o_goto, o_dup, o_dupx1, o_dup2, o_pop, o_getI, o_getR, o_putI, o_putR, o_iald, o_iast, o_bald, o_bast, o_zald, o_zast, o_aald, o_aast, o_jald, o_jast, o_dald, o_dast, o_alen, o_castA, o_new, o_newa, o_callv, o_callvN, o_calli, o_calls, o_objinit, o_iret, o_zret, o_fret, o_dret, o_aret, o_vret, o_throw, o_acopy, o_bcopy, o_clone, o_tsw, o_ldcS, o_kval, o_kcoder, o_klen, o_kald, o_tald, o_getSq, o_callk, o_callvH, gl, stl, stl2, pre2, va_rf, Value.category, catS, List.length_cons, List.length_nil, List.map_cons, List.map_nil, List.sum_cons, List.sum_nil, List.take_succ_cons, List.take_zero, List.drop_succ_cons, List.drop_zero, List.reverse_cons, List.reverse_nil, List.nil_append, List.cons_append, true_and, and_true, if_true, Nat.reduceAdd, Nat.reduceLT, Nat.reduceLeDiff]
  refine ⟨fun z => absurd z (by decide), fun _ => ⟨fun z => ?_, fun z => ?_⟩⟩
  rotate_left
  · rw [if_pos (Nat.lt_of_not_le (fun w => z (e2.mpr w)))] at h
    exact h
  have z2 := e2.mp z
  rw [if_neg (by omega)] at h
  rw [c3, e_J6_stringSize_0f7a4_16]
  simp only [e_J6_stringSize_0f7a4_0, e_J6_stringSize_0f7a4_1, e_J6_stringSize_0f7a4_2, e_J6_stringSize_0f7a4_3, e_J6_stringSize_0f7a4_6, e_J6_stringSize_0f7a4_7, e_J6_stringSize_0f7a4_8, e_J6_stringSize_0f7a4_9, e_J6_stringSize_0f7a4_10, e_J6_stringSize_0f7a4_11, e_J6_stringSize_0f7a4_13, e_J6_stringSize_0f7a4_14, e_J6_stringSize_0f7a4_15, e_J6_stringSize_0f7a4_17, e_J6_stringSize_0f7a4_19, e_J6_stringSize_0f7a4_22, e_J6_stringSize_0f7a4_23, e_J6_stringSize_0f7a4_24, e_J6_stringSize_0f7a4_27, e_J6_stringSize_0f7a4_28, e_J6_stringSize_0f7a4_29, e_J6_stringSize_0f7a4_30, e_J6_stringSize_0f7a4_31, e_J6_stringSize_0f7a4_33, e_J6_stringSize_0f7a4_34, e_J6_stringSize_0f7a4_35, e_J6_stringSize_0f7a4_36, e_J6_stringSize_0f7a4_39, e_J6_stringSize_0f7a4_42, e_J6_stringSize_0f7a4_44, e_J6_stringSize_0f7a4_45, e_J6_stringSize_0f7a4_46, o_const, o_iload, o_aload, o_fload, o_dload, o_istore, o_astore, o_fstore, o_dstore, o_iinc, o_bin, o_div, o_un, o_i2l, o_i2f, o_i2d, o_f2d, o_fdiv, o_ddiv, o_lcmp, o_fcmp, o_dcmp, o_if, o_if2, o_goto, o_dup, o_dupx1, o_dup2, o_pop, o_getI, o_getR, o_putI, o_putR, o_iald, o_iast, o_bald, o_bast, o_zald, o_zast, o_aald, o_aast, o_jald, o_jast, o_dald, o_dast, o_alen, o_castA, o_new, o_newa, o_callv, o_callvN, o_calli, o_calls, o_objinit, o_iret, o_zret, o_fret, o_dret, o_aret, o_vret, o_throw, o_acopy, o_bcopy, o_clone, o_tsw, o_ldcS, o_kval, o_kcoder, o_klen, o_kald, o_tald, o_getSq, o_callk, o_callvH, gl, stl, stl2, pre2, va_rf, Value.category, catS, List.length_cons, List.length_nil, List.map_cons, List.map_nil, List.sum_cons, List.sum_nil, List.take_succ_cons, List.take_zero, List.drop_succ_cons, List.drop_zero, List.reverse_cons, List.reverse_nil, List.nil_append, List.cons_append, true_and, and_true, if_true, Nat.reduceAdd, Nat.reduceLT, Nat.reduceLeDiff]
  refine ⟨fun z => absurd z (by decide), fun _ => ⟨fun z => ?_, fun z => ?_⟩⟩
  rotate_left
  · rw [if_pos (Nat.lt_of_not_le (fun w => z (e3.mpr w)))] at h
    exact h
  have z3 := e3.mp z
  rw [if_neg (by omega)] at h
  rw [c4, e_J6_stringSize_0f7a4_16]
  simp only [e_J6_stringSize_0f7a4_0, e_J6_stringSize_0f7a4_1, e_J6_stringSize_0f7a4_2, e_J6_stringSize_0f7a4_3, e_J6_stringSize_0f7a4_6, e_J6_stringSize_0f7a4_7, e_J6_stringSize_0f7a4_8, e_J6_stringSize_0f7a4_9, e_J6_stringSize_0f7a4_10, e_J6_stringSize_0f7a4_11, e_J6_stringSize_0f7a4_13, e_J6_stringSize_0f7a4_14, e_J6_stringSize_0f7a4_15, e_J6_stringSize_0f7a4_17, e_J6_stringSize_0f7a4_19, e_J6_stringSize_0f7a4_22, e_J6_stringSize_0f7a4_23, e_J6_stringSize_0f7a4_24, e_J6_stringSize_0f7a4_27, e_J6_stringSize_0f7a4_28, e_J6_stringSize_0f7a4_29, e_J6_stringSize_0f7a4_30, e_J6_stringSize_0f7a4_31, e_J6_stringSize_0f7a4_33, e_J6_stringSize_0f7a4_34, e_J6_stringSize_0f7a4_35, e_J6_stringSize_0f7a4_36, e_J6_stringSize_0f7a4_39, e_J6_stringSize_0f7a4_42, e_J6_stringSize_0f7a4_44, e_J6_stringSize_0f7a4_45, e_J6_stringSize_0f7a4_46, o_const, o_iload, o_aload, o_fload, o_dload, o_istore, o_astore, o_fstore, o_dstore, o_iinc, o_bin, o_div, o_un, o_i2l, o_i2f, o_i2d, o_f2d, o_fdiv, o_ddiv, o_lcmp, o_fcmp, o_dcmp, o_if, o_if2, o_goto, o_dup, o_dupx1, o_dup2, o_pop, o_getI, o_getR, o_putI, o_putR, o_iald, o_iast, o_bald, o_bast, o_zald, o_zast, o_aald, o_aast, o_jald, o_jast, o_dald, o_dast, o_alen, o_castA, o_new, o_newa, o_callv, o_callvN, o_calli, o_calls, o_objinit, o_iret, o_zret, o_fret, o_dret, o_aret, o_vret, o_throw, o_acopy, o_bcopy, o_clone, o_tsw, o_ldcS, o_kval, o_kcoder, o_klen, o_kald, o_tald, o_getSq, o_callk, o_callvH, gl, stl, stl2, pre2, va_rf, Value.category, catS, List.length_cons, List.length_nil, List.map_cons, List.map_nil, List.sum_cons, List.sum_nil, List.take_succ_cons, List.take_zero, List.drop_succ_cons, List.drop_zero, List.reverse_cons, List.reverse_nil, List.nil_append, List.cons_append, true_and, and_true, if_true, Nat.reduceAdd, Nat.reduceLT, Nat.reduceLeDiff]
  refine ⟨fun z => absurd z (by decide), fun _ => ⟨fun z => ?_, fun z => ?_⟩⟩
  rotate_left
  · rw [if_pos (Nat.lt_of_not_le (fun w => z (e4.mpr w)))] at h
    exact h
  have z4 := e4.mp z
  rw [if_neg (by omega)] at h
  rw [c5, e_J6_stringSize_0f7a4_16]
  simp only [e_J6_stringSize_0f7a4_0, e_J6_stringSize_0f7a4_1, e_J6_stringSize_0f7a4_2, e_J6_stringSize_0f7a4_3, e_J6_stringSize_0f7a4_6, e_J6_stringSize_0f7a4_7, e_J6_stringSize_0f7a4_8, e_J6_stringSize_0f7a4_9, e_J6_stringSize_0f7a4_10, e_J6_stringSize_0f7a4_11, e_J6_stringSize_0f7a4_13, e_J6_stringSize_0f7a4_14, e_J6_stringSize_0f7a4_15, e_J6_stringSize_0f7a4_17, e_J6_stringSize_0f7a4_19, e_J6_stringSize_0f7a4_22, e_J6_stringSize_0f7a4_23, e_J6_stringSize_0f7a4_24, e_J6_stringSize_0f7a4_27, e_J6_stringSize_0f7a4_28, e_J6_stringSize_0f7a4_29, e_J6_stringSize_0f7a4_30, e_J6_stringSize_0f7a4_31, e_J6_stringSize_0f7a4_33, e_J6_stringSize_0f7a4_34, e_J6_stringSize_0f7a4_35, e_J6_stringSize_0f7a4_36, e_J6_stringSize_0f7a4_39, e_J6_stringSize_0f7a4_42, e_J6_stringSize_0f7a4_44, e_J6_stringSize_0f7a4_45, e_J6_stringSize_0f7a4_46, o_const, o_iload, o_aload, o_fload, o_dload, o_istore, o_astore, o_fstore, o_dstore, o_iinc, o_bin, o_div, o_un, o_i2l, o_i2f, o_i2d, o_f2d, o_fdiv, o_ddiv, o_lcmp, o_fcmp, o_dcmp, o_if, o_if2, o_goto, o_dup, o_dupx1, o_dup2, o_pop, o_getI, o_getR, o_putI, o_putR, o_iald, o_iast, o_bald, o_bast, o_zald, o_zast, o_aald, o_aast, o_jald, o_jast, o_dald, o_dast, o_alen, o_castA, o_new, o_newa, o_callv, o_callvN, o_calli, o_calls, o_objinit, o_iret, o_zret, o_fret, o_dret, o_aret, o_vret, o_throw, o_acopy, o_bcopy, o_clone, o_tsw, o_ldcS, o_kval, o_kcoder, o_klen, o_kald, o_tald, o_getSq, o_callk, o_callvH, gl, stl, stl2, pre2, va_rf, Value.category, catS, List.length_cons, List.length_nil, List.map_cons, List.map_nil, List.sum_cons, List.sum_nil, List.take_succ_cons, List.take_zero, List.drop_succ_cons, List.drop_zero, List.reverse_cons, List.reverse_nil, List.nil_append, List.cons_append, true_and, and_true, if_true, Nat.reduceAdd, Nat.reduceLT, Nat.reduceLeDiff]
  refine ⟨fun z => absurd z (by decide), fun _ => ⟨fun z => ?_, fun z => ?_⟩⟩
  · exact absurd (e5.mp z) (by omega)
  · exact h
theorem ng_int {a : Nat} (ha : a < 2 ^ 30) : (-nI a).toInt = -(a : Int) := by
  rw [← Int32.zero_sub, ← nI_0, pk_sub_toInt (by decide) ha]; omega
theorem ng_div {w : Nat} (hw : w < 2 ^ 30) : (-nI w) / 100 = -nI (w / 100) := by
  apply Int32.toInt_inj.mp
  rw [Int32.toInt_div, ng_int hw, ng_int (by omega), show (100 : Int32).toInt = 100 from rfl, Int.neg_tdiv, Int.tdiv_eq_ediv_of_nonneg (by omega)]
  have e : (w : Int) / 100 = ((w / 100 : Nat) : Int) := by omega
  rw [e, Int.bmod_eq_of_le (by omega) (by omega)]
theorem ng_rem {w : Nat} : (-nI (w / 100)) * 100 - (-nI w) = nI (w % 100) := by
  rw [show (100 : Int32) = nI 100 from rfl, Int32.neg_mul, pk_mul, Int32.sub_eq_add_neg, Int32.neg_neg, Int32.add_comm, ← Int32.sub_eq_add_neg, pk_sub (by omega), show w - w / 100 * 100 = w % 100 by omega]
def gcs : Nat → Nat → Nat → (Nat → Int32) → Nat × (Nat → Int32)
  | 0, _, cp, g => (cp, g)
  | r + 1, w, cp, g => if 100 ≤ w then gcs r (w / 100) (cp - 2) (upN (upN g (cp - 1) (nI (48 + w % 100 % 10))) (cp - 2) (nI (48 + w % 100 / 10)))
      else if w < 10 then (cp - 1, upN g (cp - 1) (nI (48 + w % 10))) else (cp - 2, upN (upN g (cp - 1) (nI (48 + w % 10))) (cp - 2) (nI (48 + w / 10)))
theorem nar_b' : ∀ c, c < 128 → vp_nar .byte (nI c) = nI c := by decide +kernel
theorem sp_getChars_lp (hks : ¬ ks 11 = ks 10) {b : Nat} (hb : b ∈ gL S ∧ gK S b = 15 ∧ gN S b = 16) {x1 : Option Value} {R : Nat × (Nat → Int32)}
    (h : ∀ S', (∀ j, gI S' 15 b j = R.2 j) → Fr S S' (fun t a => t = 15 ∧ a = b) 0 0 → Q (.inl (some (.int (nI R.1)))) S') :
    ∀ r w cp g q1 q2 S', w < 10 * 100 ^ r → w ≤ 99999 → 2 * r + 2 ≤ cp → cp ≤ 16 → (q2 = none ∨ ∃ k, q2 = some (.int k)) → (∀ j, gI S' 15 b j = g j) → Fr S S' (fun t a => t = 15 ∧ a = b) 0 0 → gcs (r + 1) w cp g = R →
      Run ks (WG ks d) Q tb_J6_getChars_ba4f3 22 [some (.int (-nI w)), x1, some (.ref b), q1, q2, some (.int (nI cp)), some (.int 0)] [] S' := by
  have hone : ∀ w cp g q2 S' q1, w < 100 → 2 ≤ cp → cp ≤ 16 → (q2 = none ∨ ∃ k, q2 = some (.int k)) → (∀ j, gI S' 15 b j = g j) → Fr S S' (fun t a => t = 15 ∧ a = b) 0 0 → (if w < 10 then (cp - 1, upN g (cp - 1) (nI (48 + w % 10))) else (cp - 2, upN (upN g (cp - 1) (nI (48 + w % 10))) (cp - 2) (nI (48 + w / 10)))) = R →
      Run ks (WG ks d) Q tb_J6_getChars_ba4f3 72 [some (.int (-nI w)), x1, some (.ref b), q1, q2, some (.int (nI cp)), some (.int 0)] [] S' := by
    intro w cp g q2 S' q1 hw hcp hcp2 hq2 hg hF hR
    have b1 := hF.1 b hb.1
    have f1 : nI cp + -1 = nI (cp - 1) := by rw [show cp = cp - 1 + 1 by omega, pk_m1]; rfl
    have f2 : nI (cp - 1) + -1 = nI (cp - 2) := by rw [show cp - 1 = cp - 2 + 1 by omega, pk_m1]
    have f5 : (-9 ≤ -nI w) = (w ≤ 9) := propext (ng_le (a := 9) (b := w) (by decide) (by omega))
    have f6 : (ks 11 = ks 10) = False := eq_false hks
    have u1 := nar_b' (48 + w % 10) (by omega)
    have u2 := nar_b' (48 + w / 10) (by omega)
    rcases hq2 with rfl | ⟨kk, rfl⟩ <;>
    simp only [e_J6_getChars_ba4f3_0, e_J6_getChars_ba4f3_1, e_J6_getChars_ba4f3_3, e_J6_getChars_ba4f3_4, e_J6_getChars_ba4f3_7, e_J6_getChars_ba4f3_8, e_J6_getChars_ba4f3_11, e_J6_getChars_ba4f3_12, e_J6_getChars_ba4f3_14, e_J6_getChars_ba4f3_16, e_J6_getChars_ba4f3_19, e_J6_getChars_ba4f3_20, e_J6_getChars_ba4f3_21, e_J6_getChars_ba4f3_23, e_J6_getChars_ba4f3_25, e_J6_getChars_ba4f3_28, e_J6_getChars_ba4f3_29, e_J6_getChars_ba4f3_31, e_J6_getChars_ba4f3_32, e_J6_getChars_ba4f3_33, e_J6_getChars_ba4f3_34, e_J6_getChars_ba4f3_36, e_J6_getChars_ba4f3_37, e_J6_getChars_ba4f3_38, e_J6_getChars_ba4f3_39, e_J6_getChars_ba4f3_41, e_J6_getChars_ba4f3_42, e_J6_getChars_ba4f3_43, e_J6_getChars_ba4f3_44, e_J6_getChars_ba4f3_47, e_J6_getChars_ba4f3_49, e_J6_getChars_ba4f3_52, e_J6_getChars_ba4f3_54, e_J6_getChars_ba4f3_55, e_J6_getChars_ba4f3_56, e_J6_getChars_ba4f3_57, e_J6_getChars_ba4f3_60, e_J6_getChars_ba4f3_62, e_J6_getChars_ba4f3_65, e_J6_getChars_ba4f3_67, e_J6_getChars_ba4f3_68, e_J6_getChars_ba4f3_69, e_J6_getChars_ba4f3_72, e_J6_getChars_ba4f3_73, e_J6_getChars_ba4f3_76, e_J6_getChars_ba4f3_78, e_J6_getChars_ba4f3_81, e_J6_getChars_ba4f3_82, e_J6_getChars_ba4f3_83, e_J6_getChars_ba4f3_84, e_J6_getChars_ba4f3_85, e_J6_getChars_ba4f3_86, e_J6_getChars_ba4f3_88, e_J6_getChars_ba4f3_91, e_J6_getChars_ba4f3_92, e_J6_getChars_ba4f3_95, e_J6_getChars_ba4f3_97, e_J6_getChars_ba4f3_100, e_J6_getChars_ba4f3_101, e_J6_getChars_ba4f3_102, e_J6_getChars_ba4f3_103, e_J6_getChars_ba4f3_104, e_J6_getChars_ba4f3_106, e_J6_getChars_ba4f3_109, e_J6_getChars_ba4f3_110, e_J6_getChars_ba4f3_113, e_J6_getChars_ba4f3_115, e_J6_getChars_ba4f3_117, e_J6_getChars_ba4f3_118, e_J6_getChars_ba4f3_120, o_const, o_iload, o_aload, o_fload, o_dload, o_istore, o_astore, o_fstore, o_dstore, o_iinc, o_bin, o_div, o_un, o_i2l, o_i2f, o_i2d, o_f2d, o_fdiv, o_ddiv, o_lcmp, o_fcmp, o_dcmp, o_if, o_if2, o_goto, o_dup, o_dupx1, o_dup2, o_pop, o_getI, o_getR, o_putI, o_putR, o_iald, o_iast, o_bald, o_bast, o_zald, o_zast, o_aald, o_aast, o_jald, o_jast, o_dald, o_dast, o_alen, o_castA, o_new, o_newa, o_callv, o_callvN, o_calli, o_calls, o_objinit, o_iret, o_zret, o_fret, o_dret, o_aret, o_vret, o_throw, o_acopy, o_bcopy, o_clone, o_tsw, o_ldcS, o_kval, o_kcoder, o_klen, o_kald, o_tald, o_getSq, o_callk, o_callvH, gl, stl, stl2, pre2, va_rf, Value.category, catS, List.length_cons, List.length_nil, List.map_cons, List.map_nil, List.sum_cons, List.sum_nil, List.take_succ_cons, List.take_zero, List.drop_succ_cons, List.drop_zero, List.reverse_cons, List.reverse_nil, List.nil_append, List.cons_append, true_and, and_true, if_true, Nat.reduceAdd, Nat.reduceLT, Nat.reduceLeDiff, b1.1, b1.2.1.trans hb.2.1, b1.2.2.trans hb.2.2, gL_sW, gL_sI, gL_sR, gL_sC, gL_nW, gK_sW, gK_sI, gK_sR, gK_sC, gK_nW, gN_sW, gN_sI, gN_sR, gN_sC, gN_nW, gC_sW, gC_sI, gC_sR, gC_sC, gC_nW, gZ_sW, gZ_sI, gZ_sR, gZ_sC, gZ_nW, f1, f2, f5, f6, Int32.neg_neg, nI_clamp (show w < 2 ^ 31 by omega), nI_clamp (show cp - 1 < 2 ^ 31 by omega), nI_clamp (show cp - 2 < 2 ^ 31 by omega), u1, u2, or_true, true_or, false_implies, true_implies, not_true, not_false_eq_true, false_or]
    all_goals (
      refine ⟨vp_in_nI (by omega) (by decide), vp_in_nI (by omega) (by decide), fun c => ?_, fun c => ⟨vp_in_nI (by omega) (by decide), vp_in_nI (by omega) (by decide), ?_⟩⟩
      · rw [if_pos (by omega)] at hR
        subst hR
        refine h _ (fun j => ?_) ((hF.trans (Fr.sI S' 15 b (cp - 1) (nI (48 + w % 10)))).mono (fun _ _ _ w => w.elim id id) (by decide) (by decide))
        rw [gI_sIk]
        simp only [upN]
        by_cases e : j = cp - 1
        · rw [if_pos ⟨trivial, trivial, e⟩, if_pos e]
        · rw [if_neg (fun z => e z.2.2), if_neg e]; exact hg j
      · rw [if_neg (by omega)] at hR
        subst hR
        refine h _ (fun j => ?_) ((hF.trans ((Fr.sI S' 15 b (cp - 1) (nI (48 + w % 10))).trans (Fr.sI (sI S' 15 b (cp - 1) (nI (48 + w % 10))) 15 b (cp - 2) (nI (48 + w / 10))))).mono (fun _ _ _ w => by rcases w with w | w | w <;> exact w) (by decide) (by decide))
        rw [gI_sIk, gI_sIk]
        simp only [upN]
        by_cases e : j = cp - 2
        · rw [if_pos ⟨trivial, trivial, e⟩, if_pos e]
        · rw [if_neg (fun z => e z.2.2), if_neg e]
          by_cases e2 : j = cp - 1
          · rw [if_pos ⟨trivial, trivial, e2⟩, if_pos e2]
          · rw [if_neg (fun z => e2 z.2.2), if_neg e2]; exact hg j)
  have h72 : ∀ r w cp g q1 q2 S', w < 100 → 2 ≤ cp → cp ≤ 16 → (q2 = none ∨ ∃ k, q2 = some (.int k)) → (∀ j, gI S' 15 b j = g j) → Fr S S' (fun t a => t = 15 ∧ a = b) 0 0 → gcs (r + 1) w cp g = R → Run ks (WG ks d) Q tb_J6_getChars_ba4f3 22 [some (.int (-nI w)), x1, some (.ref b), q1, q2, some (.int (nI cp)), some (.int 0)] [] S' := by
    intro r w cp g q1 q2 S' hw hcp hcp2 hq2 hg hF hR
    simp only [gcs, if_neg (show ¬ 100 ≤ w by omega)] at hR
    have f4 : ¬ (-nI w ≤ -100) := fun z => absurd ((ng_le (a := w) (b := 100) (by omega) (by decide)).mp z) (by omega)
    rw [e_J6_getChars_ba4f3_22]
    simp only [e_J6_getChars_ba4f3_0, e_J6_getChars_ba4f3_1, e_J6_getChars_ba4f3_3, e_J6_getChars_ba4f3_4, e_J6_getChars_ba4f3_7, e_J6_getChars_ba4f3_8, e_J6_getChars_ba4f3_11, e_J6_getChars_ba4f3_12, e_J6_getChars_ba4f3_14, e_J6_getChars_ba4f3_16, e_J6_getChars_ba4f3_19, e_J6_getChars_ba4f3_20, e_J6_getChars_ba4f3_21, e_J6_getChars_ba4f3_23, e_J6_getChars_ba4f3_25, e_J6_getChars_ba4f3_28, e_J6_getChars_ba4f3_29, e_J6_getChars_ba4f3_31, e_J6_getChars_ba4f3_32, e_J6_getChars_ba4f3_33, e_J6_getChars_ba4f3_34, e_J6_getChars_ba4f3_36, e_J6_getChars_ba4f3_37, e_J6_getChars_ba4f3_38, e_J6_getChars_ba4f3_39, e_J6_getChars_ba4f3_41, e_J6_getChars_ba4f3_42, e_J6_getChars_ba4f3_43, e_J6_getChars_ba4f3_44, e_J6_getChars_ba4f3_47, e_J6_getChars_ba4f3_49, e_J6_getChars_ba4f3_52, e_J6_getChars_ba4f3_54, e_J6_getChars_ba4f3_55, e_J6_getChars_ba4f3_56, e_J6_getChars_ba4f3_57, e_J6_getChars_ba4f3_60, e_J6_getChars_ba4f3_62, e_J6_getChars_ba4f3_65, e_J6_getChars_ba4f3_67, e_J6_getChars_ba4f3_68, e_J6_getChars_ba4f3_69, e_J6_getChars_ba4f3_73, e_J6_getChars_ba4f3_76, e_J6_getChars_ba4f3_78, e_J6_getChars_ba4f3_81, e_J6_getChars_ba4f3_82, e_J6_getChars_ba4f3_83, e_J6_getChars_ba4f3_84, e_J6_getChars_ba4f3_85, e_J6_getChars_ba4f3_86, e_J6_getChars_ba4f3_88, e_J6_getChars_ba4f3_91, e_J6_getChars_ba4f3_92, e_J6_getChars_ba4f3_95, e_J6_getChars_ba4f3_97, e_J6_getChars_ba4f3_100, e_J6_getChars_ba4f3_101, e_J6_getChars_ba4f3_102, e_J6_getChars_ba4f3_103, e_J6_getChars_ba4f3_104, e_J6_getChars_ba4f3_106, e_J6_getChars_ba4f3_109, e_J6_getChars_ba4f3_110, e_J6_getChars_ba4f3_113, e_J6_getChars_ba4f3_115, e_J6_getChars_ba4f3_117, e_J6_getChars_ba4f3_118, e_J6_getChars_ba4f3_120, o_const, o_iload, o_aload, o_fload, o_dload, o_istore, o_astore, o_fstore, o_dstore, o_iinc, o_bin, o_div, o_un, o_i2l, o_i2f, o_i2d, o_f2d, o_fdiv, o_ddiv, o_lcmp, o_fcmp, o_dcmp, o_if, o_if2, o_goto, o_dup, o_dupx1, o_dup2, o_pop, o_getI, o_getR, o_putI, o_putR, o_iald, o_iast, o_bald, o_bast, o_zald, o_zast, o_aald, o_aast, o_jald, o_jast, o_dald, o_dast, o_alen, o_castA, o_new, o_newa, o_callv, o_callvN, o_calli, o_calls, o_objinit, o_iret, o_zret, o_fret, o_dret, o_aret, o_vret, o_throw, o_acopy, o_bcopy, o_clone, o_tsw, o_ldcS, o_kval, o_kcoder, o_klen, o_kald, o_tald, o_getSq, o_callk, o_callvH, gl, stl, stl2, pre2, va_rf, Value.category, catS, List.length_cons, List.length_nil, List.map_cons, List.map_nil, List.sum_cons, List.sum_nil, List.take_succ_cons, List.take_zero, List.drop_succ_cons, List.drop_zero, List.reverse_cons, List.reverse_nil, List.nil_append, List.cons_append, true_and, and_true, if_true, Nat.reduceAdd, Nat.reduceLT, Nat.reduceLeDiff]
    refine ⟨fun _ => hone w cp g q2 S' q1 hw hcp hcp2 hq2 hg hF hR, fun z => ?_⟩
    exact absurd (Int32.not_le.mp f4) z
  intro r
  induction r with
  | zero =>
    intro w cp g q1 q2 S' hw hwm hcp hcp2 hq2 hg hF hR
    exact h72 0 w cp g q1 q2 S' (by omega) (by omega) hcp2 hq2 hg hF hR
  | succ r ih =>
    intro w cp g q1 q2 S' hw hwm hcp hcp2 hq2 hg hF hR
    by_cases c : w < 100
    · exact h72 _ w cp g q1 q2 S' c (by omega) hcp2 hq2 hg hF hR
    · have b1 := hF.1 b hb.1
      have hwb : w / 100 < 10 * 100 ^ r := by rw [Nat.pow_succ] at hw; omega
      have hR' : gcs (r + 1) (w / 100) (cp - 2) (upN (upN g (cp - 1) (nI (48 + w % 100 % 10))) (cp - 2) (nI (48 + w % 100 / 10))) = R := by
        rw [← hR]
        show _ = gcs (r + 1 + 1) w cp g
        conv => rhs; unfold gcs
        rw [if_pos (show 100 ≤ w by omega)]
      have f4 : ¬ (-100 < -nI w) := fun z => Int32.lt_irrefl (Int32.lt_of_lt_of_le z ((ng_le (a := w) (b := 100) (by omega) (by decide)).mpr (by omega)))
      have f1 : nI cp + -1 = nI (cp - 1) := by rw [show cp = cp - 1 + 1 by omega, pk_m1]; rfl
      have f2 : nI (cp - 1) + -1 = nI (cp - 2) := by rw [show cp - 1 = cp - 2 + 1 by omega, pk_m1]
      have f6 : (ks 11 = ks 10) = False := eq_false hks
      have u1 := nar_b' (48 + w % 100 % 10) (by omega)
      have u2 := nar_b' (48 + w % 100 / 10) (by omega)
      have d1 := ng_div (w := w) (by omega)
      have d2 := ng_rem (w := w)
      rw [e_J6_getChars_ba4f3_22]
      simp only [e_J6_getChars_ba4f3_0, e_J6_getChars_ba4f3_1, e_J6_getChars_ba4f3_3, e_J6_getChars_ba4f3_4, e_J6_getChars_ba4f3_7, e_J6_getChars_ba4f3_8, e_J6_getChars_ba4f3_11, e_J6_getChars_ba4f3_12, e_J6_getChars_ba4f3_14, e_J6_getChars_ba4f3_16, e_J6_getChars_ba4f3_19, e_J6_getChars_ba4f3_20, e_J6_getChars_ba4f3_21, e_J6_getChars_ba4f3_23, e_J6_getChars_ba4f3_25, e_J6_getChars_ba4f3_28, e_J6_getChars_ba4f3_29, e_J6_getChars_ba4f3_31, e_J6_getChars_ba4f3_32, e_J6_getChars_ba4f3_33, e_J6_getChars_ba4f3_34, e_J6_getChars_ba4f3_36, e_J6_getChars_ba4f3_37, e_J6_getChars_ba4f3_38, e_J6_getChars_ba4f3_39, e_J6_getChars_ba4f3_41, e_J6_getChars_ba4f3_42, e_J6_getChars_ba4f3_43, e_J6_getChars_ba4f3_44, e_J6_getChars_ba4f3_47, e_J6_getChars_ba4f3_49, e_J6_getChars_ba4f3_52, e_J6_getChars_ba4f3_54, e_J6_getChars_ba4f3_55, e_J6_getChars_ba4f3_56, e_J6_getChars_ba4f3_57, e_J6_getChars_ba4f3_60, e_J6_getChars_ba4f3_62, e_J6_getChars_ba4f3_65, e_J6_getChars_ba4f3_67, e_J6_getChars_ba4f3_68, e_J6_getChars_ba4f3_69, e_J6_getChars_ba4f3_73, e_J6_getChars_ba4f3_76, e_J6_getChars_ba4f3_78, e_J6_getChars_ba4f3_81, e_J6_getChars_ba4f3_82, e_J6_getChars_ba4f3_83, e_J6_getChars_ba4f3_84, e_J6_getChars_ba4f3_85, e_J6_getChars_ba4f3_86, e_J6_getChars_ba4f3_88, e_J6_getChars_ba4f3_91, e_J6_getChars_ba4f3_92, e_J6_getChars_ba4f3_95, e_J6_getChars_ba4f3_97, e_J6_getChars_ba4f3_100, e_J6_getChars_ba4f3_101, e_J6_getChars_ba4f3_102, e_J6_getChars_ba4f3_103, e_J6_getChars_ba4f3_104, e_J6_getChars_ba4f3_106, e_J6_getChars_ba4f3_109, e_J6_getChars_ba4f3_110, e_J6_getChars_ba4f3_113, e_J6_getChars_ba4f3_115, e_J6_getChars_ba4f3_117, e_J6_getChars_ba4f3_118, e_J6_getChars_ba4f3_120, o_const, o_iload, o_aload, o_fload, o_dload, o_istore, o_astore, o_fstore, o_dstore, o_iinc, o_bin, o_div, o_un, o_i2l, o_i2f, o_i2d, o_f2d, o_fdiv, o_ddiv, o_lcmp, o_fcmp, o_dcmp, o_if, o_if2, o_goto, o_dup, o_dupx1, o_dup2, o_pop, o_getI, o_getR, o_putI, o_putR, o_iald, o_iast, o_bald, o_bast, o_zald, o_zast, o_aald, o_aast, o_jald, o_jast, o_dald, o_dast, o_alen, o_castA, o_new, o_newa, o_callv, o_callvN, o_calli, o_calls, o_objinit, o_iret, o_zret, o_fret, o_dret, o_aret, o_vret, o_throw, o_acopy, o_bcopy, o_clone, o_tsw, o_ldcS, o_kval, o_kcoder, o_klen, o_kald, o_tald, o_getSq, o_callk, o_callvH, gl, stl, stl2, pre2, va_rf, Value.category, catS, List.length_cons, List.length_nil, List.map_cons, List.map_nil, List.sum_cons, List.sum_nil, List.take_succ_cons, List.take_zero, List.drop_succ_cons, List.drop_zero, List.reverse_cons, List.reverse_nil, List.nil_append, List.cons_append, true_and, and_true, if_true, Nat.reduceAdd, Nat.reduceLT, Nat.reduceLeDiff, b1.1, b1.2.1.trans hb.2.1, b1.2.2.trans hb.2.2, gL_sW, gL_sI, gL_sR, gL_sC, gL_nW, gK_sW, gK_sI, gK_sR, gK_sC, gK_nW, gN_sW, gN_sI, gN_sR, gN_sC, gN_nW, gC_sW, gC_sI, gC_sR, gC_sC, gC_nW, gZ_sW, gZ_sI, gZ_sR, gZ_sC, gZ_nW, d1, d2, f1, f2, f6, nI_clamp (show w % 100 < 2 ^ 31 by omega), nI_clamp (show cp - 1 < 2 ^ 31 by omega), nI_clamp (show cp - 2 < 2 ^ 31 by omega), u1, u2, or_true, true_or, false_implies, true_implies, not_true, not_false_eq_true, false_or]
      refine ⟨fun z => absurd z f4, fun _ => ⟨by decide, vp_in_nI (by omega) (by decide), vp_in_nI (by omega) (by decide), vp_in_nI (by omega) (by decide), vp_in_nI (by omega) (by decide), ?_⟩⟩
      refine ih (w / 100) (cp - 2) _ _ _ _ hwb (by omega) (by omega) (by omega) (Or.inr ⟨_, rfl⟩) (fun j => ?_) ((hF.trans ((Fr.sI S' 15 b (cp - 1) (nI (48 + w % 100 % 10))).trans (Fr.sI (sI S' 15 b (cp - 1) (nI (48 + w % 100 % 10))) 15 b (cp - 2) (nI (48 + w % 100 / 10))))).mono (fun _ _ _ w => by rcases w with w | w | w <;> exact w) (by decide) (by decide)) hR'
      rw [gI_sIk, gI_sIk]
      simp only [upN]
      by_cases e : j = cp - 2
      · rw [if_pos ⟨trivial, trivial, e⟩, if_pos e]
      · rw [if_neg (fun z => e z.2.2), if_neg e]
        by_cases e2 : j = cp - 1
        · rw [if_pos ⟨trivial, trivial, e2⟩, if_pos e2]
        · rw [if_neg (fun z => e2 z.2.2), if_neg e2]; exact hg j
theorem ndg_b (v : Nat) : 1 ≤ ndg v ∧ ndg v ≤ 5 := by
  unfold ndg; split <;> (try split) <;> (try split) <;> (try split) <;> omega
theorem gcs_1 {w cp : Nat} {g : Nat → Int32} (h : w < 100) (r : Nat) : gcs (r + 1) w cp g = if w < 10 then (cp - 1, upN g (cp - 1) (nI (48 + w % 10))) else (cp - 2, upN (upN g (cp - 1) (nI (48 + w % 10))) (cp - 2) (nI (48 + w / 10))) := by
  simp only [gcs, if_neg (show ¬ 100 ≤ w by omega)]
theorem gcs_2 {w cp : Nat} {g : Nat → Int32} (h : 100 ≤ w) (r : Nat) : gcs (r + 1) w cp g = gcs r (w / 100) (cp - 2) (upN (upN g (cp - 1) (nI (48 + w % 100 % 10))) (cp - 2) (nI (48 + w % 100 / 10))) := by
  conv => lhs; unfold gcs
  rw [if_pos h]
theorem gcs_f {w cp : Nat} {g : Nat → Int32} : (w < 10 → gcs 1 w cp g = gcs 3 w cp g) ∧ (w < 1000 → gcs 2 w cp g = gcs 3 w cp g) := by
  refine ⟨fun h => by rw [gcs_1 (by omega) 0, gcs_1 (by omega) 2], fun h => ?_⟩
  by_cases c : w < 100
  · rw [gcs_1 c 1, gcs_1 c 2]
  · rw [gcs_2 (by omega) 1, gcs_2 (by omega) 2, gcs_1 (by omega) 0, gcs_1 (by omega) 1]
theorem sp_getChars (hks : ¬ ks 11 = ks 10) {b : Nat} (hb : b ∈ gL S ∧ gK S b = 15 ∧ gN S b = 16) {v n : Nat} (hv : v ≤ 99999) (hn : 2 ≤ n) (hcp2 : n + ndg v ≤ 16)
    (h : ∀ S', (∀ j, gI S' 15 b j = (gcs 3 v (n + ndg v) (gI S 15 b)).2 j) → Fr S S' (fun t a => t = 15 ∧ a = b) 0 0 → Q (.inl (some (.int (nI (gcs 3 v (n + ndg v) (gI S 15 b)).1)))) S') : WG ks (d + 1) n_J6_getChars_ba4f3 [.int (nI v), .int (nI (n + ndg v)), .ref b] S Q := by
  refine ⟨by simp [cat1, Value.category], by show (3 : Nat) ≤ 7; decide, ?_⟩
  show Run ks (WG ks d) Q tb_J6_getChars_ba4f3 0 [some (.int (nI v)), some (.int (nI (n + ndg v))), some (.ref b), none, none, none, none] [] S
  simp only [e_J6_getChars_ba4f3_0, e_J6_getChars_ba4f3_1, e_J6_getChars_ba4f3_3, e_J6_getChars_ba4f3_4, e_J6_getChars_ba4f3_7, e_J6_getChars_ba4f3_8, e_J6_getChars_ba4f3_11, e_J6_getChars_ba4f3_12, e_J6_getChars_ba4f3_14, e_J6_getChars_ba4f3_16, e_J6_getChars_ba4f3_19, e_J6_getChars_ba4f3_20, e_J6_getChars_ba4f3_21, e_J6_getChars_ba4f3_23, e_J6_getChars_ba4f3_25, e_J6_getChars_ba4f3_28, e_J6_getChars_ba4f3_29, e_J6_getChars_ba4f3_31, e_J6_getChars_ba4f3_32, e_J6_getChars_ba4f3_33, e_J6_getChars_ba4f3_34, e_J6_getChars_ba4f3_36, e_J6_getChars_ba4f3_37, e_J6_getChars_ba4f3_38, e_J6_getChars_ba4f3_39, e_J6_getChars_ba4f3_41, e_J6_getChars_ba4f3_42, e_J6_getChars_ba4f3_43, e_J6_getChars_ba4f3_44, e_J6_getChars_ba4f3_47, e_J6_getChars_ba4f3_49, e_J6_getChars_ba4f3_52, e_J6_getChars_ba4f3_54, e_J6_getChars_ba4f3_55, e_J6_getChars_ba4f3_56, e_J6_getChars_ba4f3_57, e_J6_getChars_ba4f3_60, e_J6_getChars_ba4f3_62, e_J6_getChars_ba4f3_65, e_J6_getChars_ba4f3_67, e_J6_getChars_ba4f3_68, e_J6_getChars_ba4f3_69, e_J6_getChars_ba4f3_72, e_J6_getChars_ba4f3_73, e_J6_getChars_ba4f3_76, e_J6_getChars_ba4f3_78, e_J6_getChars_ba4f3_81, e_J6_getChars_ba4f3_82, e_J6_getChars_ba4f3_83, e_J6_getChars_ba4f3_84, e_J6_getChars_ba4f3_85, e_J6_getChars_ba4f3_86, e_J6_getChars_ba4f3_88, e_J6_getChars_ba4f3_91, e_J6_getChars_ba4f3_92, e_J6_getChars_ba4f3_95, e_J6_getChars_ba4f3_97, e_J6_getChars_ba4f3_100, e_J6_getChars_ba4f3_101, e_J6_getChars_ba4f3_102, e_J6_getChars_ba4f3_103, e_J6_getChars_ba4f3_104, e_J6_getChars_ba4f3_106, e_J6_getChars_ba4f3_109, e_J6_getChars_ba4f3_110, e_J6_getChars_ba4f3_113, e_J6_getChars_ba4f3_115, e_J6_getChars_ba4f3_117, e_J6_getChars_ba4f3_118, e_J6_getChars_ba4f3_120, o_const, o_iload, o_aload, o_fload, o_dload, o_istore, o_astore, o_fstore, o_dstore, o_iinc, o_bin, o_div, o_un, o_i2l, o_i2f, o_i2d, o_f2d, o_fdiv, o_ddiv, o_lcmp, o_fcmp, o_dcmp, o_if, o_if2, o_goto, o_dup, o_dupx1, o_dup2, o_pop, o_getI, o_getR, o_putI, o_putR, o_iald, o_iast, o_bald, o_bast, o_zald, o_zast, o_aald, o_aast, o_jald, o_jast, o_dald, o_dast, o_alen, o_castA, o_new, o_newa, o_callv, o_callvN, o_calli, o_calls, o_objinit, o_iret, o_zret, o_fret, o_dret, o_aret, o_vret, o_throw, o_acopy, o_bcopy, o_clone, o_tsw, o_ldcS, o_kval, o_kcoder, o_klen, o_kald, o_tald, o_getSq, o_callk, o_callvH, gl, stl, stl2, pre2, va_rf, Value.category, catS, List.length_cons, List.length_nil, List.map_cons, List.map_nil, List.sum_cons, List.sum_nil, List.take_succ_cons, List.take_zero, List.drop_succ_cons, List.drop_zero, List.reverse_cons, List.reverse_nil, List.nil_append, List.cons_append, true_and, and_true, if_true, Nat.reduceAdd, Nat.reduceLT, Nat.reduceLeDiff]
  refine ⟨fun _ => ⟨fun z => absurd trivial z, fun _ => ?_⟩, fun z => absurd (nI_pos' (by omega)) z⟩
  have hrf : Fr S S (fun t a => t = 15 ∧ a = b) 0 0 := (Fr.rf S).mono (fun _ _ _ w => w.elim) (by decide) (by decide)
  have hnd := ndg_b v
  by_cases c1 : v < 10
  · exact sp_getChars_lp hks hb h 0 v _ _ none none S (by omega) hv (by omega) hcp2 (Or.inl rfl) (fun _ => rfl) hrf (gcs_f.1 c1)
  · by_cases c2 : v < 1000
    · have : 2 ≤ ndg v := by unfold ndg; split <;> (try split) <;> (try split) <;> (try split) <;> omega
      exact sp_getChars_lp hks hb h 1 v _ _ none none S (by omega) hv (by omega) hcp2 (Or.inl rfl) (fun _ => rfl) hrf (gcs_f.2 c2)
    · have : 4 ≤ ndg v := by unfold ndg; split <;> (try split) <;> (try split) <;> (try split) <;> omega
      exact sp_getChars_lp hks hb h 2 v _ _ none none S (by omega) hv (by omega) hcp2 (Or.inl rfl) (fun _ => rfl) hrf rfl
/-- the digit at a place -/
def dgt (v n j : Nat) : Int32 := nI (48 + v / 10 ^ (n + ndg v - 1 - j) % 10)
theorem gcs_at {v n : Nat} {g : Nat → Int32} (hv : v ≤ 99999) (j : Nat) : (gcs 3 v (n + ndg v) g).2 j = if n ≤ j ∧ j < n + ndg v then dgt v n j else g j := by
  unfold dgt
  by_cases c1 : v < 10
  · have e : ndg v = 1 := by unfold ndg; rw [if_pos c1]
    rw [e, gcs_1 (by omega) 2, if_pos c1]
    simp only [upN]
    by_cases q : j = n
    · subst q; rw [if_pos (by omega), if_pos (by omega), show j + 1 - 1 - j = 0 by omega, Nat.pow_zero, Nat.div_one]
    · rw [if_neg (by omega), if_neg (by omega)]
  by_cases c2 : v < 100
  · have e : ndg v = 2 := by unfold ndg; rw [if_neg c1, if_pos c2]
    rw [e, gcs_1 (by omega) 2, if_neg c1]
    simp only [upN]
    by_cases q : j = n
    · subst q; rw [if_pos (by omega), if_pos (by omega), show j + 2 - 1 - j = 1 by omega, Nat.pow_one, Nat.mod_eq_of_lt (by omega)]
    · by_cases q2 : j = n + 1
      · subst q2; rw [if_neg (by omega), if_pos (by omega), if_pos (by omega), show n + 2 - 1 - (n + 1) = 0 by omega, Nat.pow_zero, Nat.div_one]
      · rw [if_neg (by omega), if_neg (by omega), if_neg (by omega)]
  by_cases c3 : v < 1000
  · have e : ndg v = 3 := by unfold ndg; rw [if_neg c1, if_neg c2, if_pos c3]
    rw [e, gcs_2 (by omega) 2, gcs_1 (by omega) 1, if_pos (by omega)]
    simp only [upN]
    by_cases q0 : j = n + 0
    · rw [if_pos (by omega), if_pos (by omega), show n + 3 - 1 - j = 2 by omega]; try exact congrArg nI (by simp only [Nat.reducePow]; omega)
    by_cases q1 : j = n + 1
    · rw [if_neg (by omega), if_pos (by omega), if_pos (by omega), show n + 3 - 1 - j = 1 by omega]; try exact congrArg nI (by simp only [Nat.reducePow]; omega)
    by_cases q2 : j = n + 2
    · rw [if_neg (by omega), if_neg (by omega), if_pos (by omega), if_pos (by omega), show n + 3 - 1 - j = 0 by omega]; try exact congrArg nI (by simp only [Nat.reducePow]; omega)
    rw [if_neg (by omega), if_neg (by omega), if_neg (by omega), if_neg (by omega)]
  by_cases c4 : v < 10000
  · have e : ndg v = 4 := by unfold ndg; rw [if_neg c1, if_neg c2, if_neg c3, if_pos c4]
    rw [e, gcs_2 (by omega) 2, gcs_1 (by omega) 1, if_neg (by omega)]
    simp only [upN]
    by_cases q0 : j = n + 0
    · rw [if_pos (by omega), if_pos (by omega), show n + 4 - 1 - j = 3 by omega]; try exact congrArg nI (by simp only [Nat.reducePow]; omega)
    by_cases q1 : j = n + 1
    · rw [if_neg (by omega), if_pos (by omega), if_pos (by omega), show n + 4 - 1 - j = 2 by omega]; try exact congrArg nI (by simp only [Nat.reducePow]; omega)
    by_cases q2 : j = n + 2
    · rw [if_neg (by omega), if_neg (by omega), if_pos (by omega), if_pos (by omega), show n + 4 - 1 - j = 1 by omega]; try exact congrArg nI (by simp only [Nat.reducePow]; omega)
    by_cases q3 : j = n + 3
    · rw [if_neg (by omega), if_neg (by omega), if_neg (by omega), if_pos (by omega), if_pos (by omega), show n + 4 - 1 - j = 0 by omega]; try exact congrArg nI (by simp only [Nat.reducePow]; omega)
    rw [if_neg (by omega), if_neg (by omega), if_neg (by omega), if_neg (by omega), if_neg (by omega)]
  have e : ndg v = 5 := by unfold ndg; rw [if_neg c1, if_neg c2, if_neg c3, if_neg c4]
  rw [e, gcs_2 (by omega) 2, gcs_2 (by omega) 1, gcs_1 (by omega) 0, if_pos (by omega)]
  simp only [upN]
  by_cases q0 : j = n + 0
  · rw [if_pos (by omega), if_pos (by omega), show n + 5 - 1 - j = 4 by omega]; try exact congrArg nI (by simp only [Nat.reducePow]; omega)
  by_cases q1 : j = n + 1
  · rw [if_neg (by omega), if_pos (by omega), if_pos (by omega), show n + 5 - 1 - j = 3 by omega]; try exact congrArg nI (by simp only [Nat.reducePow]; omega)
  by_cases q2 : j = n + 2
  · rw [if_neg (by omega), if_neg (by omega), if_pos (by omega), if_pos (by omega), show n + 5 - 1 - j = 2 by omega]; try exact congrArg nI (by simp only [Nat.reducePow]; omega)
  by_cases q3 : j = n + 3
  · rw [if_neg (by omega), if_neg (by omega), if_neg (by omega), if_pos (by omega), if_pos (by omega), show n + 5 - 1 - j = 1 by omega]; try exact congrArg nI (by simp only [Nat.reducePow]; omega)
  by_cases q4 : j = n + 4
  · rw [if_neg (by omega), if_neg (by omega), if_neg (by omega), if_neg (by omega), if_pos (by omega), if_pos (by omega), show n + 5 - 1 - j = 0 by omega]; try exact congrArg nI (by simp only [Nat.reducePow]; omega)
  rw [if_neg (by omega), if_neg (by omega), if_neg (by omega), if_neg (by omega), if_neg (by omega), if_neg (by omega)]
end SPS
