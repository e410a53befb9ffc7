/-! THE MODEL: used, counts -/
section SPS
variable {ks : Nat → Nat} {d : Nat} {Q : QP} {S : M9} {m : Nat} {ad : Nat → Nat}
theorem sp_mUsed (hM : MS S m ad) {n : Nat} (g4 : gI S 40 (ad 0) 4 = nI n) (h : Q (.inl (some (.int (nI (691 + 2 * n))))) S) : WG ks (d + 1) n_X9_used [.ref m] S Q := by
  refine ⟨by simp [cat1, Value.category], by show (1 : Nat) ≤ 1; decide, ?_⟩
  show Run ks (WG ks d) Q tb_X9_used 0 [some (.ref m)] [] S
  obtain ⟨⟨m1, m2⟩, ⟨a1, a2, a3, a4⟩, -⟩ := hM
  have c4 : Int32.toNatClampNeg 4 = 4 := by decide
  simp only [e_X9_used_0, e_X9_used_3, e_X9_used_4, e_X9_used_5, e_X9_used_8, e_X9_used_9, e_X9_used_10, e_X9_used_11, e_X9_used_12, o_const, o_iload, o_aload, o_fload, o_dload, o_istore, o_astore, o_fstore, o_dstore, o_iinc, o_bin, o_div, o_un, o_i2l, o_i2f, o_i2d, o_f2d, o_fdiv, o_ddiv, o_lcmp, o_fcmp, o_dcmp, o_if, o_if2, o_goto, o_dup, o_dupx1, o_dup2, o_pop, o_getI, o_getR, o_putI, o_putR, o_iald, o_iast, o_bald, o_bast, o_zald, o_zast, o_aald, o_aast, o_jald, o_jast, o_dald, o_dast, o_alen, o_castA, o_new, o_newa, o_callv, o_callvN, o_calli, o_calls, o_objinit, o_iret, o_zret, o_fret, o_dret, o_aret, o_vret, o_throw, o_acopy, o_bcopy, o_clone, o_tsw, o_ldcS, o_kval, o_kcoder, o_klen, o_kald, o_tald, o_getSq, o_callk, o_callvH, gl, stl, stl2, pre2, va_rf, Value.category, catS, List.length_cons, List.length_nil, List.map_cons, List.map_nil, List.sum_cons, List.sum_nil, List.take_succ_cons, List.take_zero, List.drop_succ_cons, List.drop_zero, List.reverse_cons, List.reverse_nil, List.nil_append, List.cons_append, true_and, and_true, if_true, Nat.reduceAdd, Nat.reduceLT, Nat.reduceLeDiff, m1, m2, a1, a2, a3, a4, c4, g4, e691]
  exact ⟨vp_in_nI (n := 4) (by decide) (by decide), h⟩
end SPS
