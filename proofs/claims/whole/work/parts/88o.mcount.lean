/-! THE MODEL: a conversion is counted and stored -/
theorem RowR.sn {g g' : Nat → Int32} {C : CSt} {N : CSn} (h : RowR g 0 C) (hw : aWm (sSet C) ≤ 10) (hc : aCm (sSet C) ≤ 3) (hk20 : (sKp C).1 ≤ 20) (he : ∀ j, j < 691 → ¬ j = 4 → g' j = g j) (h4 : g' 4 = nI N.1) (hN : ∀ k, k < N.1 → g' (691 + 2 * k) = nI (N.2.1 k) ∧ g' (691 + 2 * k + 1) = nI (N.2.2 k)) : RowR g' 0 (setSn C N) := by
  obtain ⟨⟨h1, h2', h3, h4', h5⟩, h6, h7, h8, h9⟩ := h
  refine ⟨⟨(he 0 (by decide) (by decide)).trans h1, (he 1 (by decide) (by decide)).trans h2', (he 2 (by decide) (by decide)).trans h3, (he 3 (by decide) (by decide)).trans h4', h4⟩, fun k hk => ?_, fun k hk => ?_, fun b hb => ?_, fun k hk => ?_⟩
  · have hk2 : k < aCm (sSet C) := hk
    have a := h6 k hk
    exact ⟨(he _ (by omega) (by omega)).trans a.1, (he _ (by omega) (by omega)).trans a.2⟩
  · have hk2 : k < aWm (sSet C) := hk
    have a := h7 k hk
    exact ⟨(he _ (by omega) (by omega)).trans a.1, (he _ (by omega) (by omega)).trans a.2.1, (he _ (by omega) (by omega)).trans a.2.2.1, (he _ (by omega) (by omega)).trans a.2.2.2⟩
  · have hb2 : b < (sKp C).1 := hb
    obtain ⟨a1, a2, a3⟩ := h8 b hb
    refine ⟨(he _ (by omega) (by omega)).trans a1, (he _ (by omega) (by omega)).trans a2, fun k hk => ?_⟩
    have hk2 : k < aWm (sSet C) := hk
    exact ⟨(he _ (by omega) (by omega)).trans (a3 k hk).1, (he _ (by omega) (by omega)).trans (a3 k hk).2.1, (he _ (by omega) (by omega)).trans (a3 k hk).2.2⟩
  · simp only [Nat.zero_add]
    exact hN k hk
section SPS
variable {ks : Nat → Nat} {d : Nat} {Q : QP} {S : M9} {m : Nat} {ad : Nat → Nat} {C : CSt}
theorem sp_mCounts (hM : MS S m ad) (hR : RowR (gI S 40 (ad 0)) 0 C) (hV : SetV (sSet C)) (hk20 : (sKp C).1 ≤ 20) (hn : (sSn C).1 ≤ 9900) {c : Nat}
    (h : ∀ S', MS S' m ad → RowR (gI S' 40 (ad 0)) 0 (setSn C (nAdd (sSn C) c)) → Fr S S' (fun t a => t = 40 ∧ a = ad 0) 0 0 → Q (.inl none) S') : WG ks (d + 2) n_X9_counts [.ref m, .int (nI c)] S Q := by
  refine ⟨by simp [cat1, Value.category], by show (2 : Nat) ≤ 3; decide, ?_⟩
  show Run ks (WG ks (d + 1)) Q tb_X9_counts 0 [some (.ref m), some (.int (nI c)), none] [] S
  have hMc := hM
  obtain ⟨⟨m1, m2⟩, ⟨a1, a2, a3, a4⟩, -⟩ := hMc
  have hw10 := hV.2.1.2
  have hc3 := hV.1.2
  have g4 : gI S 40 (ad 0) 4 = nI (sSn C).1 := hR.1.2.2.2.2
  have c4 : Int32.toNatClampNeg 4 = 4 := by decide
  have v4 : vp_in 4 21153 := vp_in_nI (n := 4) (by decide) (by decide)
  simp only [e_X9_counts_0, e_X9_counts_1, e_X9_counts_2, e_X9_counts_5, e_X9_counts_6, e_X9_counts_7, e_X9_counts_8, e_X9_counts_11, e_X9_counts_12, e_X9_counts_15, e_X9_counts_16, e_X9_counts_17, e_X9_counts_18, e_X9_counts_19, e_X9_counts_22, e_X9_counts_25, e_X9_counts_26, e_X9_counts_27, e_X9_counts_28, e_X9_counts_29, e_X9_counts_30, e_X9_counts_31, e_X9_counts_32, e_X9_counts_35, e_X9_counts_38, e_X9_counts_39, e_X9_counts_40, e_X9_counts_41, e_X9_counts_42, e_X9_counts_43, e_X9_counts_44, e_X9_counts_45, e_X9_counts_46, e_X9_counts_47, e_X9_counts_50, e_X9_counts_51, e_X9_counts_52, e_X9_counts_53, e_X9_counts_54, e_X9_counts_55, e_X9_counts_56, e_X9_counts_57, e_X9_counts_60, e_X9_counts_63, e_X9_counts_64, e_X9_counts_65, e_X9_counts_66, e_X9_counts_67, e_X9_counts_68, e_X9_counts_69, e_X9_counts_70, e_X9_counts_71, e_X9_counts_72, e_X9_counts_73, e_X9_counts_74, o_const, o_iload, o_aload, o_fload, o_dload, o_istore, o_astore, o_fstore, o_dstore, o_iinc, o_bin, o_div, o_un, o_i2l, o_i2f, o_i2d, o_f2d, o_fdiv, o_ddiv, o_lcmp, o_fcmp, o_dcmp, o_if, o_if2, o_goto, o_dup, o_dupx1, o_dup2, o_pop, o_getI, o_getR, o_putI, o_putR, o_iald, o_iast, o_bald, o_bast, o_zald, o_zast, o_aald, o_aast, o_jald, o_jast, o_dald, o_dast, o_alen, o_castA, o_new, o_newa, o_callv, o_callvN, o_calli, o_calls, o_objinit, o_iret, o_zret, o_fret, o_dret, o_aret, o_vret, o_throw, o_acopy, o_bcopy, o_clone, o_tsw, o_ldcS, o_kval, o_kcoder, o_klen, o_kald, o_tald, o_getSq, o_callk, o_callvH, gl, stl, stl2, pre2, va_rf, Value.category, catS, List.length_cons, List.length_nil, List.map_cons, List.map_nil, List.sum_cons, List.sum_nil, List.take_succ_cons, List.take_zero, List.drop_succ_cons, List.drop_zero, List.reverse_cons, List.reverse_nil, List.nil_append, List.cons_append, true_and, and_true, if_true, Nat.reduceAdd, Nat.reduceLT, Nat.reduceLeDiff, m1, m2]
  refine ⟨⟨m, _, rfl, rfl, m1, m2⟩, sp_mPlace hM hR (by omega) ?_⟩
  unfold nAdd at h
  cases hp : plc (sSn C).2.1 (nI c) 0 (sSn C).1 with
  | none =>
    rw [hp] at h
    have q0 : (nI (691 + 2 * (sSn C).1)).toNatClampNeg = 691 + 2 * (sSn C).1 := nI_clamp (by omega)
    have q1 : (nI (691 + 2 * (sSn C).1 + 1)).toNatClampNeg = 691 + 2 * (sSn C).1 + 1 := nI_clamp (by omega)
    have v0 : vp_in (nI (691 + 2 * (sSn C).1)) 21153 := vp_in_nI (by omega) (by decide)
    have v1 : vp_in (nI (691 + 2 * (sSn C).1 + 1)) 21153 := vp_in_nI (by omega) (by decide)
    have n1 : ¬ 4 = 691 + 2 * (sSn C).1 := by omega
    have n2 : ¬ 4 = 691 + 2 * (sSn C).1 + 1 := by omega
    have n3 : ¬ 691 + 2 * (sSn C).1 + 1 = 4 := by omega
    simp only [behind, plI, e_X9_counts_0, e_X9_counts_1, e_X9_counts_2, e_X9_counts_5, e_X9_counts_6, e_X9_counts_7, e_X9_counts_8, e_X9_counts_11, e_X9_counts_12, e_X9_counts_15, e_X9_counts_16, e_X9_counts_17, e_X9_counts_18, e_X9_counts_19, e_X9_counts_22, e_X9_counts_25, e_X9_counts_26, e_X9_counts_27, e_X9_counts_28, e_X9_counts_29, e_X9_counts_30, e_X9_counts_31, e_X9_counts_32, e_X9_counts_35, e_X9_counts_38, e_X9_counts_39, e_X9_counts_40, e_X9_counts_41, e_X9_counts_42, e_X9_counts_43, e_X9_counts_44, e_X9_counts_45, e_X9_counts_46, e_X9_counts_47, e_X9_counts_50, e_X9_counts_51, e_X9_counts_52, e_X9_counts_53, e_X9_counts_54, e_X9_counts_55, e_X9_counts_56, e_X9_counts_57, e_X9_counts_60, e_X9_counts_63, e_X9_counts_64, e_X9_counts_65, e_X9_counts_66, e_X9_counts_67, e_X9_counts_68, e_X9_counts_69, e_X9_counts_70, e_X9_counts_71, e_X9_counts_72, e_X9_counts_73, e_X9_counts_74, o_const, o_iload, o_aload, o_fload, o_dload, o_istore, o_astore, o_fstore, o_dstore, o_iinc, o_bin, o_div, o_un, o_i2l, o_i2f, o_i2d, o_f2d, o_fdiv, o_ddiv, o_lcmp, o_fcmp, o_dcmp, o_if, o_if2, o_goto, o_dup, o_dupx1, o_dup2, o_pop, o_getI, o_getR, o_putI, o_putR, o_iald, o_iast, o_bald, o_bast, o_zald, o_zast, o_aald, o_aast, o_jald, o_jast, o_dald, o_dast, o_alen, o_castA, o_new, o_newa, o_callv, o_callvN, o_calli, o_calls, o_objinit, o_iret, o_zret, o_fret, o_dret, o_aret, o_vret, o_throw, o_acopy, o_bcopy, o_clone, o_tsw, o_ldcS, o_kval, o_kcoder, o_klen, o_kald, o_tald, o_getSq, o_callk, o_callvH, gl, stl, stl2, pre2, va_rf, Value.category, catS, List.length_cons, List.length_nil, List.map_cons, List.map_nil, List.sum_cons, List.sum_nil, List.take_succ_cons, List.take_zero, List.drop_succ_cons, List.drop_zero, List.reverse_cons, List.reverse_nil, List.nil_append, List.cons_append, true_and, and_true, if_true, Nat.reduceAdd, Nat.reduceLT, Nat.reduceLeDiff, m1, m2, a1, a2, a3, a4, c4, v4, g4, e691, q0, q1, v0, v1, gL_sW, gL_sI, gL_sR, gL_sC, gL_nW, gK_sW, gK_sI, gK_sR, gK_sC, gK_nW, gN_sW, gN_sI, gN_sR, gN_sC, gN_nW, gC_sW, gC_sI, gC_sR, gC_sC, gC_nW, gZ_sW, gZ_sI, gZ_sR, gZ_sC, gZ_nW, gR_sI, gI_sIk, and_self, true_and, nI_1, n1, n2, n3, if_false]
    refine ⟨fun x => absurd (by decide) x, fun _ => ?_⟩
    have F1 := Fr.sI S 40 (ad 0) (691 + 2 * (sSn C).1) (nI c)
    have F2 := Fr.sI (sI S 40 (ad 0) (691 + 2 * (sSn C).1) (nI c)) 40 (ad 0) (691 + 2 * (sSn C).1 + 1) 0
    have F3 := Fr.sI (sI (sI S 40 (ad 0) (691 + 2 * (sSn C).1) (nI c)) 40 (ad 0) (691 + 2 * (sSn C).1 + 1) 0) 40 (ad 0) 4 (nI ((sSn C).1 + 1))
    have F4 := Fr.sI (sI (sI (sI S 40 (ad 0) (691 + 2 * (sSn C).1) (nI c)) 40 (ad 0) (691 + 2 * (sSn C).1 + 1) 0) 40 (ad 0) 4 (nI ((sSn C).1 + 1))) 40 (ad 0) (691 + 2 * (sSn C).1 + 1) (0 + 1)
    refine h _ ((((hM.fr F1 (by rw [gR_sI])).fr F2 (by rw [gR_sI])).fr F3 (by rw [gR_sI])).fr F4 (by rw [gR_sI])) (hR.sn hw10 hc3 hk20 (fun j hj h4 => ?_) ?_ (fun j hj => ?_)) ((F1.trans (F2.trans (F3.trans F4))).mono (fun t a _ w => by omega) (by decide) (by decide))
    · rw [gI_sIk, if_neg (fun w => by omega), gI_sIk, if_neg (fun w => by omega), gI_sIk, if_neg (fun w => by omega), gI_sIk, if_neg (fun w => by omega)]
    · rw [gI_sIk, if_neg (fun w => by omega), gI_sIk, if_pos ⟨rfl, rfl, rfl⟩]; rfl
    · have hj2 : j < (sSn C).1 + 1 := hj
      by_cases e : j = (sSn C).1
      · refine ⟨?_, ?_⟩
        · rw [gI_sIk, if_neg (fun w => by omega), gI_sIk, if_neg (fun w => by omega), gI_sIk, if_neg (fun w => by omega), gI_sIk, if_pos ⟨rfl, rfl, by omega⟩]
          exact congrArg nI (if_pos e).symm
        · rw [gI_sIk, if_pos ⟨rfl, rfl, by omega⟩]
          exact congrArg nI (show 1 = if j = (sSn C).1 then 1 else (sSn C).2.2 j from (if_pos e).symm)
      · have r5 := hR.2.2.2.2 j (by omega)
        simp only [Nat.zero_add] at r5
        refine ⟨?_, ?_⟩
        · rw [gI_sIk, if_neg (fun w => by omega), gI_sIk, if_neg (fun w => by omega), gI_sIk, if_neg (fun w => by omega), gI_sIk, if_neg (fun w => by omega), r5.1]
          exact congrArg nI (if_neg e).symm
        · rw [gI_sIk, if_neg (fun w => by omega), gI_sIk, if_neg (fun w => by omega), gI_sIk, if_neg (fun w => by omega), gI_sIk, if_neg (fun w => by omega), r5.2]
          exact congrArg nI (if_neg e).symm
  | some k =>
    rw [hp] at h
    obtain ⟨-, hk⟩ := plc_lt _ _ _ hp
    rw [Nat.zero_add] at hk
    have q1 : (nI (691 + 2 * k + 1)).toNatClampNeg = 691 + 2 * k + 1 := nI_clamp (by omega)
    have v1 : vp_in (nI (691 + 2 * k + 1)) 21153 := vp_in_nI (by omega) (by decide)
    have r5 := (hR.2.2.2.2 k hk).2
    rw [Nat.zero_add] at r5
    simp only [behind, plI, e_X9_counts_0, e_X9_counts_1, e_X9_counts_2, e_X9_counts_5, e_X9_counts_6, e_X9_counts_7, e_X9_counts_8, e_X9_counts_11, e_X9_counts_12, e_X9_counts_15, e_X9_counts_16, e_X9_counts_17, e_X9_counts_18, e_X9_counts_19, e_X9_counts_22, e_X9_counts_25, e_X9_counts_26, e_X9_counts_27, e_X9_counts_28, e_X9_counts_29, e_X9_counts_30, e_X9_counts_31, e_X9_counts_32, e_X9_counts_35, e_X9_counts_38, e_X9_counts_39, e_X9_counts_40, e_X9_counts_41, e_X9_counts_42, e_X9_counts_43, e_X9_counts_44, e_X9_counts_45, e_X9_counts_46, e_X9_counts_47, e_X9_counts_50, e_X9_counts_51, e_X9_counts_52, e_X9_counts_53, e_X9_counts_54, e_X9_counts_55, e_X9_counts_56, e_X9_counts_57, e_X9_counts_60, e_X9_counts_63, e_X9_counts_64, e_X9_counts_65, e_X9_counts_66, e_X9_counts_67, e_X9_counts_68, e_X9_counts_69, e_X9_counts_70, e_X9_counts_71, e_X9_counts_72, e_X9_counts_73, e_X9_counts_74, o_const, o_iload, o_aload, o_fload, o_dload, o_istore, o_astore, o_fstore, o_dstore, o_iinc, o_bin, o_div, o_un, o_i2l, o_i2f, o_i2d, o_f2d, o_fdiv, o_ddiv, o_lcmp, o_fcmp, o_dcmp, o_if, o_if2, o_goto, o_dup, o_dupx1, o_dup2, o_pop, o_getI, o_getR, o_putI, o_putR, o_iald, o_iast, o_bald, o_bast, o_zald, o_zast, o_aald, o_aast, o_jald, o_jast, o_dald, o_dast, o_alen, o_castA, o_new, o_newa, o_callv, o_callvN, o_calli, o_calls, o_objinit, o_iret, o_zret, o_fret, o_dret, o_aret, o_vret, o_throw, o_acopy, o_bcopy, o_clone, o_tsw, o_ldcS, o_kval, o_kcoder, o_klen, o_kald, o_tald, o_getSq, o_callk, o_callvH, gl, stl, stl2, pre2, va_rf, Value.category, catS, List.length_cons, List.length_nil, List.map_cons, List.map_nil, List.sum_cons, List.sum_nil, List.take_succ_cons, List.take_zero, List.drop_succ_cons, List.drop_zero, List.reverse_cons, List.reverse_nil, List.nil_append, List.cons_append, true_and, and_true, if_true, Nat.reduceAdd, Nat.reduceLT, Nat.reduceLeDiff, m1, m2, a1, a2, a3, a4, e691, q1, v1, r5, nI_1]
    refine ⟨fun _ => ?_, fun z => absurd (Classical.not_not.mp z) (fun e => ?_)⟩
    · have F1 := Fr.sI S 40 (ad 0) (691 + 2 * k + 1) (nI ((sSn C).2.2 k + 1))
      refine h _ (hM.fr F1 (by rw [gR_sI])) (hR.sn hw10 hc3 hk20 (fun j hj h4 => ?_) ?_ (fun j hj => ?_)) F1
      · rw [gI_sIk, if_neg (fun w => by omega)]
      · rw [gI_sIk, if_neg (fun w => by omega)]; exact g4
      · have hj2 : j < (sSn C).1 := hj
        have r6 := hR.2.2.2.2 j hj2
        simp only [Nat.zero_add] at r6
        refine ⟨?_, ?_⟩
        · rw [gI_sIk, if_neg (fun w => by omega)]; exact r6.1
        · rw [gI_sIk]
          by_cases e : j = k
          · rw [if_pos ⟨rfl, rfl, by omega⟩]
            exact congrArg nI (if_pos e).symm
          · rw [if_neg (fun w => by omega), r6.2]
            exact congrArg nI (if_neg e).symm
    · have := nI_pos (show k < 2 ^ 31 by omega)
      rw [e] at this
      exact this (by decide)
end SPS
