/-! THE MODEL: drawing -/
section SPS
variable {ks : Nat → Nat} {d : Nat} {Q : QP} {S : M9} {m : Nat} {ad : Nat → Nat}
theorem sp_mDraws (hM : MS S m ad) {c am z : Nat} (hc : c < 3) (ha : am ≤ 30) (hz : z ≤ 65535) (ga : gI S 40 (ad 0) (8 + c) = nI am) (gz : gI S 40 (ad 0) 2 = nI z)
    (h0 : am = 0 → Q (.inl (some (.int 0))) S) (h1 : ¬ am = 0 → Q (.inl (some (.int (nzI (nzN z) am)))) (sI S 40 (ad 0) 2 (nI (nzN z)))) : WG ks (d + 1) n_X9_draws [.ref m, .int (nI c)] S Q := by
  refine ⟨by simp [cat1, Value.category], by show (2 : Nat) ≤ 3; decide, ?_⟩
  show Run ks (WG ks d) Q tb_X9_draws 0 [some (.ref m), some (.int (nI c)), none] [] S
  obtain ⟨⟨m1, m2⟩, ⟨a1, a2, a3, a4⟩, -⟩ := hM
  have e8 : (8 : Int32) + nI c = nI (8 + c) := by rw [show (8 : Int32) = nI 8 from rfl, nI_add]
  have hcl : (nI (8 + c)).toNatClampNeg = 8 + c := nI_clamp (by omega)
  have c2 : Int32.toNatClampNeg 2 = 2 := by decide
  have e1 : (nI z * 20077 + 12345) - (nI z * 20077 + 12345) / 65536 * 65536 = nI (nzN z) := by
    rw [show (20077 : Int32) = nI 20077 from rfl, show (12345 : Int32) = nI 12345 from rfl, show (65536 : Int32) = nI 65536 from rfl, pk_mul, nI_add, pk_rem (by omega) (by decide) (by decide)]
    rfl
  have hb : nzN z < 65536 := Nat.mod_lt _ (by decide)
  have e2 : nI (nzN z) / 16 = nI (nzN z / 16) := by rw [show (16 : Int32) = nI 16 from rfl, pk_div (by omega) (by decide) (by decide)]
  have e3 : 2 * nI am + 1 = nI (2 * am + 1) := by rw [cl_2mul, nI_1]
  have e4 : nI (nzN z / 16) - nI (nzN z / 16) / nI (2 * am + 1) * nI (2 * am + 1) = nI (nzN z / 16 % (2 * am + 1)) := pk_rem (by omega) (by omega) (by omega)
  have v2 : vp_in 2 21153 := vp_in_nI (n := 2) (by decide) (by decide)
  simp only [e_X9_draws_0, e_X9_draws_1, e_X9_draws_4, e_X9_draws_6, e_X9_draws_7, e_X9_draws_8, e_X9_draws_9, e_X9_draws_10, e_X9_draws_11, e_X9_draws_14, e_X9_draws_15, e_X9_draws_16, e_X9_draws_17, e_X9_draws_20, e_X9_draws_21, e_X9_draws_22, e_X9_draws_25, e_X9_draws_26, e_X9_draws_27, e_X9_draws_30, e_X9_draws_31, e_X9_draws_34, e_X9_draws_35, e_X9_draws_37, e_X9_draws_38, e_X9_draws_39, e_X9_draws_40, e_X9_draws_43, e_X9_draws_44, e_X9_draws_45, e_X9_draws_47, e_X9_draws_48, e_X9_draws_49, e_X9_draws_50, e_X9_draws_51, e_X9_draws_52, e_X9_draws_53, e_X9_draws_54, e_X9_draws_55, e_X9_draws_56, o_const, o_iload, o_aload, o_fload, o_dload, o_istore, o_astore, o_fstore, o_dstore, o_iinc, o_bin, o_div, o_un, o_i2l, o_i2f, o_i2d, o_f2d, o_fdiv, o_ddiv, o_lcmp, o_fcmp, o_dcmp, o_if, o_if2, o_goto, o_dup, o_dupx1, o_dup2, o_pop, o_getI, o_getR, o_putI, o_putR, o_iald, o_iast, o_bald, o_bast, o_zald, o_zast, o_aald, o_aast, o_jald, o_jast, o_dald, o_dast, o_alen, o_castA, o_new, o_newa, o_callv, o_callvN, o_calli, o_calls, o_objinit, o_iret, o_zret, o_fret, o_dret, o_aret, o_vret, o_throw, o_acopy, o_bcopy, o_clone, o_tsw, o_ldcS, o_kval, o_kcoder, o_klen, o_kald, o_tald, o_getSq, o_callk, o_callvH, gl, stl, stl2, pre2, va_rf, Value.category, catS, List.length_cons, List.length_nil, List.map_cons, List.map_nil, List.sum_cons, List.sum_nil, List.take_succ_cons, List.take_zero, List.drop_succ_cons, List.drop_zero, List.reverse_cons, List.reverse_nil, List.nil_append, List.cons_append, true_and, and_true, if_true, Nat.reduceAdd, Nat.reduceLT, Nat.reduceLeDiff, m1, m2, a1, a2, a3, a4, e8, hcl, c2, ga, gz, e1, gL_sW, gL_sI, gL_sR, gL_sC, gL_nW, gK_sW, gK_sI, gK_sR, gK_sC, gK_nW, gN_sW, gN_sI, gN_sR, gN_sC, gN_nW, gC_sW, gC_sI, gC_sR, gC_sC, gC_nW, gZ_sW, gZ_sI, gZ_sR, gZ_sC, gZ_nW, gR_sI, gI_sIk, and_self, e2, e3, e4]
  refine ⟨vp_in_nI (by omega) (by decide), fun c9 => ⟨v2, by decide, v2, v2, by decide, nI_ne0 (by omega) (by omega), h1 (fun e => c9 (by rw [e]; rfl))⟩, fun c9 => h0 ((nI_eq (b := 0) (by omega) (by decide)).mp (Classical.not_not.mp c9))⟩
end SPS
