/-! A STATE: drawing, converting -/
/-- the next noise state -/
def nzN (z : Nat) : Nat := (z * 20077 + 12345) % 65536
/-- a noise of this amplitude, the state already drawn -/
def nzI (z am : Nat) : Int32 := nI (z / 16 % (2 * am + 1)) - nI am
def setNoi (C : CSt) (z : Nat) : CSt := (C.1, C.2.1, z, C.2.2.2.1, C.2.2.2.2)
section SPS
variable {ks : Nat → Nat} {d : Nat} {Q : QP} {S : M9} {p B L : Nat} {C : CSt}
theorem sp_drawNoise0 {am : Nat} (ha : am = 0) (h : Q (.inl (some (.int 0))) S) : WG ks (d + 1) n_X7_drawNoise [.ref p, .int (nI am)] S Q := by
  subst ha
  refine ⟨by simp [cat1, Value.category], by show (2 : Nat) ≤ 2; decide, ?_⟩
  show Run ks (WG ks d) Q tb_X7_drawNoise 0 [some (.ref p), some (.int (nI 0))] [] S
  simp only [e_X7_drawNoise_0, e_X7_drawNoise_1, e_X7_drawNoise_4, e_X7_drawNoise_5, e_X7_drawNoise_6, e_X7_drawNoise_7, e_X7_drawNoise_8, e_X7_drawNoise_11, e_X7_drawNoise_14, e_X7_drawNoise_15, e_X7_drawNoise_18, e_X7_drawNoise_19, e_X7_drawNoise_21, e_X7_drawNoise_22, e_X7_drawNoise_25, e_X7_drawNoise_26, e_X7_drawNoise_29, e_X7_drawNoise_31, e_X7_drawNoise_32, e_X7_drawNoise_33, e_X7_drawNoise_34, e_X7_drawNoise_35, e_X7_drawNoise_36, e_X7_drawNoise_37, e_X7_drawNoise_38, e_X7_drawNoise_39, e_X7_drawNoise_40, o_const, o_iload, o_aload, o_fload, o_dload, o_istore, o_astore, o_fstore, o_dstore, o_iinc, o_bin, o_div, o_un, o_i2l, o_i2f, o_i2d, o_f2d, o_fdiv, o_ddiv, o_lcmp, o_fcmp, o_dcmp, o_if, o_if2, o_goto, o_dup, o_dupx1, o_dup2, o_pop, o_getI, o_getR, o_putI, o_putR, o_iald, o_iast, o_bald, o_bast, o_zald, o_zast, o_aald, o_aast, o_jald, o_jast, o_dald, o_dast, o_alen, o_castA, o_new, o_newa, o_callv, o_callvN, o_calli, o_calls, o_objinit, o_iret, o_zret, o_fret, o_dret, o_aret, o_vret, o_throw, o_acopy, o_bcopy, o_clone, o_tsw, o_ldcS, o_kval, o_kcoder, o_klen, o_kald, o_tald, o_getSq, o_callk, o_callvH, gl, stl, stl2, pre2, va_rf, Value.category, catS, List.length_cons, List.length_nil, List.map_cons, List.map_nil, List.sum_cons, List.sum_nil, List.take_succ_cons, List.take_zero, List.drop_succ_cons, List.drop_zero, List.reverse_cons, List.reverse_nil, List.nil_append, List.cons_append, true_and, and_true, if_true, Nat.reduceAdd, Nat.reduceLT, Nat.reduceLeDiff]
  exact ⟨fun c => absurd c (by decide), fun _ => h⟩
theorem sp_drawNoise (hp : p ∈ gL S) (hk : gK S p = 9) {z am : Nat} (hz : gI S 9 p 2 = nI z) (hzb : z ≤ 65535) (ha : 0 < am ∧ am ≤ 30) (h : Q (.inl (some (.int (nzI (nzN z) am)))) (sI S 9 p 2 (nI (nzN z)))) : WG ks (d + 1) n_X7_drawNoise [.ref p, .int (nI am)] S Q := by
  refine ⟨by simp [cat1, Value.category], by show (2 : Nat) ≤ 2; decide, ?_⟩
  show Run ks (WG ks d) Q tb_X7_drawNoise 0 [some (.ref p), some (.int (nI am))] [] S
  have e1 : (nI z * 20077 + 12345) - (nI z * 20077 + 12345) / 65536 * 65536 = nI (nzN z) := by
    rw [show (20077 : Int32) = nI 20077 from rfl, show (12345 : Int32) = nI 12345 from rfl, show (65536 : Int32) = nI 65536 from rfl, pk_mul, nI_add, pk_rem (by omega) (by decide) (by decide)]
    rfl
  have hb : nzN z < 65536 := Nat.mod_lt _ (by decide)
  have e2 : nI (nzN z) / 16 = nI (nzN z / 16) := by rw [show (16 : Int32) = nI 16 from rfl, pk_div (by omega) (by decide) (by decide)]
  have e3 : 2 * nI am + 1 = nI (2 * am + 1) := by rw [cl_2mul, nI_1]
  have e4 : nI (nzN z / 16) - nI (nzN z / 16) / nI (2 * am + 1) * nI (2 * am + 1) = nI (nzN z / 16 % (2 * am + 1)) := pk_rem (by omega) (by omega) (by omega)
  simp only [e_X7_drawNoise_0, e_X7_drawNoise_1, e_X7_drawNoise_4, e_X7_drawNoise_5, e_X7_drawNoise_6, e_X7_drawNoise_7, e_X7_drawNoise_8, e_X7_drawNoise_11, e_X7_drawNoise_14, e_X7_drawNoise_15, e_X7_drawNoise_18, e_X7_drawNoise_19, e_X7_drawNoise_21, e_X7_drawNoise_22, e_X7_drawNoise_25, e_X7_drawNoise_26, e_X7_drawNoise_29, e_X7_drawNoise_31, e_X7_drawNoise_32, e_X7_drawNoise_33, e_X7_drawNoise_34, e_X7_drawNoise_35, e_X7_drawNoise_36, e_X7_drawNoise_37, e_X7_drawNoise_38, e_X7_drawNoise_39, e_X7_drawNoise_40, o_const, o_iload, o_aload, o_fload, o_dload, o_istore, o_astore, o_fstore, o_dstore, o_iinc, o_bin, o_div, o_un, o_i2l, o_i2f, o_i2d, o_f2d, o_fdiv, o_ddiv, o_lcmp, o_fcmp, o_dcmp, o_if, o_if2, o_goto, o_dup, o_dupx1, o_dup2, o_pop, o_getI, o_getR, o_putI, o_putR, o_iald, o_iast, o_bald, o_bast, o_zald, o_zast, o_aald, o_aast, o_jald, o_jast, o_dald, o_dast, o_alen, o_castA, o_new, o_newa, o_callv, o_callvN, o_calli, o_calls, o_objinit, o_iret, o_zret, o_fret, o_dret, o_aret, o_vret, o_throw, o_acopy, o_bcopy, o_clone, o_tsw, o_ldcS, o_kval, o_kcoder, o_klen, o_kald, o_tald, o_getSq, o_callk, o_callvH, gl, stl, stl2, pre2, va_rf, Value.category, catS, List.length_cons, List.length_nil, List.map_cons, List.map_nil, List.sum_cons, List.sum_nil, List.take_succ_cons, List.take_zero, List.drop_succ_cons, List.drop_zero, List.reverse_cons, List.reverse_nil, List.nil_append, List.cons_append, true_and, and_true, if_true, Nat.reduceAdd, Nat.reduceLT, Nat.reduceLeDiff, hp, hk, hz, gL_sW, gL_sI, gL_sR, gL_sC, gL_nW, gK_sW, gK_sI, gK_sR, gK_sC, gK_nW, gN_sW, gN_sI, gN_sR, gN_sC, gN_nW, gC_sW, gC_sI, gC_sR, gC_sC, gC_nW, gZ_sW, gZ_sI, gZ_sR, gZ_sC, gZ_nW, gI_sIk, narI, e1, e2, e3]
  refine ⟨fun _ => ⟨by decide, by decide, nI_ne0 (by omega) (by omega), ?_⟩, fun c => absurd (by rw [← nI_0]; exact nI_lt ha.1 (by omega)) c⟩
  rw [e4]
  exact h
end SPS
