/-! THE CONVERSIONS KEPT and A STATE, made -/
theorem ArrR.nw {S : M9} {t a n z : Nat} (h : ¬ a ∈ gL S) : ArrR (nW S t a n z) t a n (fun _ => 0) := by
  refine ⟨List.mem_append_right _ List.mem_cons_self, ?_, ?_, fun k _ => ?_⟩
  · rw [gK_nW, if_pos rfl]
  · rw [gN_nW, if_pos rfl]
  · rw [gI_nWk, if_pos ⟨rfl, rfl⟩]
/-- a put into a field, then a new row: what stands before it stays -/
theorem fr_pn {S : M9} {t a k t' a' n z : Nat} {v : Option Nat} (h : ¬ a' ∈ gL S) : Fr S (nW (sR S t a k v) t' a' n z) (fun t1 a1 => t1 = t ∧ a1 = a) 1 z :=
  ((Fr.sR S t a k v).trans (Fr.nW (sR S t a k v) t' a' n z h)).mono (fun _ _ _ w => w.elim id False.elim) (by omega) (by omega)
section SPS
variable {ks : Nat → Nat} {d : Nat} {Q : QP} {S : M9} {k ki kc kb kn : Nat}
theorem sp_keptInit (hq : k ∈ gL S) (hk : gK S k = 3) (h17 : 17 ≤ ki ∧ 17 ≤ kc ∧ 17 ≤ kb ∧ 17 ≤ kn ∧ ¬ ki = kc ∧ ¬ ki = kb ∧ ¬ ki = kn ∧ ¬ kc = kb ∧ ¬ kc = kn ∧ ¬ kb = kn) (hc : gC S + 4 ≤ cCM) (hz : gZ S + 260 ≤ cSM)
    (h : ∀ S', KeptR S' k ki kc kb kn 0 0 (fun _ => 0) (fun _ => 0) (fun _ => 0) (fun _ => 0) → Fr S S' (fun t a => t = 3 ∧ a = k) 4 260 → Q (.inl none) S') : WG ks (d + 1) n_X1_init [.ref k] S Q := by
  refine ⟨by simp [cat1, Value.category], by show (1 : Nat) ≤ 1; decide, ?_⟩
  show Run ks (WG ks d) Q tb_X1_init 0 [some (.ref k)] [] S
  have h17' := h17
  obtain ⟨i1, i2, i3, i4, -⟩ := h17'
  have hn : ∀ t a, 17 ≤ t → ¬ (t = 3 ∧ a = k) := fun t a h1 w => by omega
  simp only [e_X1_init_0, e_X1_init_1, e_X1_init_4, e_X1_init_5, e_X1_init_7, e_X1_init_12, e_X1_init_13, e_X1_init_15, e_X1_init_20, e_X1_init_21, e_X1_init_23, e_X1_init_28, e_X1_init_29, e_X1_init_32, e_X1_init_37, e_X1_init_38, e_X1_init_39, e_X1_init_42, e_X1_init_43, e_X1_init_44, e_X1_init_47, o_const, o_iload, o_aload, o_fload, o_dload, o_istore, o_astore, o_fstore, o_dstore, o_iinc, o_bin, o_div, o_un, o_i2l, o_i2f, o_i2d, o_f2d, o_fdiv, o_ddiv, o_lcmp, o_fcmp, o_dcmp, o_if, o_if2, o_goto, o_dup, o_dupx1, o_dup2, o_pop, o_getI, o_getR, o_putI, o_putR, o_iald, o_iast, o_bald, o_bast, o_zald, o_zast, o_aald, o_aast, o_jald, o_jast, o_dald, o_dast, o_alen, o_castA, o_new, o_newa, o_callv, o_callvN, o_calli, o_calls, o_objinit, o_iret, o_zret, o_fret, o_dret, o_aret, o_vret, o_throw, o_acopy, o_bcopy, o_clone, o_tsw, o_ldcS, o_kval, o_kcoder, o_klen, o_kald, o_tald, o_getSq, o_callk, o_callvH, gl, stl, stl2, pre2, va_rf, Value.category, catS, List.length_cons, List.length_nil, List.map_cons, List.map_nil, List.sum_cons, List.sum_nil, List.take_succ_cons, List.take_zero, List.drop_succ_cons, List.drop_zero, List.reverse_cons, List.reverse_nil, List.nil_append, List.cons_append, true_and, and_true, if_true, Nat.reduceAdd, Nat.reduceLT, Nat.reduceLeDiff, hq, hk, cl_20]
  refine ⟨by decide, by omega, by omega, ki, i1, fun i hi => ?_⟩
  have F1 := Fr.nW S ki i 20 20 hi
  have A1 := ArrR.nw (t := ki) (n := 20) (z := 20) hi
  obtain ⟨q1, q2, -⟩ := F1.1 k hq
  generalize nW S ki i 20 20 = S1 at F1 A1 q1 q2 ⊢
  rw [e_X1_init_9]
  simp only [e_X1_init_0, e_X1_init_1, e_X1_init_4, e_X1_init_5, e_X1_init_7, e_X1_init_9, e_X1_init_12, e_X1_init_13, e_X1_init_15, e_X1_init_20, e_X1_init_21, e_X1_init_23, e_X1_init_28, e_X1_init_29, e_X1_init_32, e_X1_init_37, e_X1_init_38, e_X1_init_39, e_X1_init_42, e_X1_init_43, e_X1_init_44, e_X1_init_47, o_const, o_iload, o_aload, o_fload, o_dload, o_istore, o_astore, o_fstore, o_dstore, o_iinc, o_bin, o_div, o_un, o_i2l, o_i2f, o_i2d, o_f2d, o_fdiv, o_ddiv, o_lcmp, o_fcmp, o_dcmp, o_if, o_if2, o_goto, o_dup, o_dupx1, o_dup2, o_pop, o_getI, o_getR, o_putI, o_putR, o_iald, o_iast, o_bald, o_bast, o_zald, o_zast, o_aald, o_aast, o_jald, o_jast, o_dald, o_dast, o_alen, o_castA, o_new, o_newa, o_callv, o_callvN, o_calli, o_calls, o_objinit, o_iret, o_zret, o_fret, o_dret, o_aret, o_vret, o_throw, o_acopy, o_bcopy, o_clone, o_tsw, o_ldcS, o_kval, o_kcoder, o_klen, o_kald, o_tald, o_getSq, o_callk, o_callvH, gl, stl, stl2, pre2, va_rf, Value.category, catS, List.length_cons, List.length_nil, List.map_cons, List.map_nil, List.sum_cons, List.sum_nil, List.take_succ_cons, List.take_zero, List.drop_succ_cons, List.drop_zero, List.reverse_cons, List.reverse_nil, List.nil_append, List.cons_append, true_and, and_true, if_true, Nat.reduceAdd, Nat.reduceLT, Nat.reduceLeDiff, q1, q2.trans hk, gL_sW, gL_sI, gL_sR, gL_sC, gL_nW, gK_sW, gK_sI, gK_sR, gK_sC, gK_nW, gN_sW, gN_sI, gN_sR, gN_sC, gN_nW, gC_sW, gC_sI, gC_sR, gC_sC, gC_nW, gZ_sW, gZ_sI, gZ_sR, gZ_sC, gZ_nW, cl_20]
  refine ⟨by decide, by have := F1.2.2.1; omega, by have := F1.2.2.2; omega, kc, i2, fun c hcc => ?_⟩
  have F2 := fr_pn (S := S1) (t := 3) (a := k) (k := 0) (v := some i) (t' := kc) (n := 20) (z := 20) hcc
  have A2 := ArrR.nw (S := sR S1 3 k 0 (some i)) (t := kc) (n := 20) (z := 20) hcc
  have A12 := A1.fr F2 (hn _ _ i1)
  obtain ⟨p1, p2, -⟩ := F2.1 k q1
  have G0 : gR (nW (sR S1 3 k 0 (some i)) kc c 20 20) 3 k 0 = some i := by rw [gR_nWk, if_neg (fun w => absurd w.1 (by omega)), gR_sRk, if_pos ⟨rfl, rfl, rfl⟩]
  have F12 := F1.trans F2
  generalize nW (sR S1 3 k 0 (some i)) kc c 20 20 = S2 at F2 A2 A12 p1 p2 G0 F12 ⊢
  rw [e_X1_init_17]
  simp only [e_X1_init_0, e_X1_init_1, e_X1_init_4, e_X1_init_5, e_X1_init_7, e_X1_init_9, e_X1_init_12, e_X1_init_13, e_X1_init_15, e_X1_init_17, e_X1_init_20, e_X1_init_21, e_X1_init_23, e_X1_init_28, e_X1_init_29, e_X1_init_32, e_X1_init_37, e_X1_init_38, e_X1_init_39, e_X1_init_42, e_X1_init_43, e_X1_init_44, e_X1_init_47, o_const, o_iload, o_aload, o_fload, o_dload, o_istore, o_astore, o_fstore, o_dstore, o_iinc, o_bin, o_div, o_un, o_i2l, o_i2f, o_i2d, o_f2d, o_fdiv, o_ddiv, o_lcmp, o_fcmp, o_dcmp, o_if, o_if2, o_goto, o_dup, o_dupx1, o_dup2, o_pop, o_getI, o_getR, o_putI, o_putR, o_iald, o_iast, o_bald, o_bast, o_zald, o_zast, o_aald, o_aast, o_jald, o_jast, o_dald, o_dast, o_alen, o_castA, o_new, o_newa, o_callv, o_callvN, o_calli, o_calls, o_objinit, o_iret, o_zret, o_fret, o_dret, o_aret, o_vret, o_throw, o_acopy, o_bcopy, o_clone, o_tsw, o_ldcS, o_kval, o_kcoder, o_klen, o_kald, o_tald, o_getSq, o_callk, o_callvH, gl, stl, stl2, pre2, va_rf, Value.category, catS, List.length_cons, List.length_nil, List.map_cons, List.map_nil, List.sum_cons, List.sum_nil, List.take_succ_cons, List.take_zero, List.drop_succ_cons, List.drop_zero, List.reverse_cons, List.reverse_nil, List.nil_append, List.cons_append, true_and, and_true, if_true, Nat.reduceAdd, Nat.reduceLT, Nat.reduceLeDiff, p1, p2.trans (q2.trans hk), gL_sW, gL_sI, gL_sR, gL_sC, gL_nW, gK_sW, gK_sI, gK_sR, gK_sC, gK_nW, gN_sW, gN_sI, gN_sR, gN_sC, gN_nW, gC_sW, gC_sI, gC_sR, gC_sC, gC_nW, gZ_sW, gZ_sI, gZ_sR, gZ_sC, gZ_nW, cl_20]
  refine ⟨by decide, by have := F12.2.2.1; omega, by have := F12.2.2.2; omega, kb, i3, fun b hb => ?_⟩
  have F3 := fr_pn (S := S2) (t := 3) (a := k) (k := 1) (v := some c) (t' := kb) (n := 20) (z := 20) hb
  have A3 := ArrR.nw (S := sR S2 3 k 1 (some c)) (t := kb) (n := 20) (z := 20) hb
  have A13 := A12.fr F3 (hn _ _ i1)
  have A23 := A2.fr F3 (hn _ _ i2)
  obtain ⟨r1, r2, -⟩ := F3.1 k p1
  have H0 : gR (nW (sR S2 3 k 1 (some c)) kb b 20 20) 3 k 0 = some i := by rw [gR_nWk, if_neg (fun w => absurd w.1 (by omega)), gR_sRk, if_neg (fun w => absurd w.2.2 (by decide))]; exact G0
  have H1 : gR (nW (sR S2 3 k 1 (some c)) kb b 20 20) 3 k 1 = some c := by rw [gR_nWk, if_neg (fun w => absurd w.1 (by omega)), gR_sRk, if_pos ⟨rfl, rfl, rfl⟩]
  have F13 := F12.trans F3
  generalize nW (sR S2 3 k 1 (some c)) kb b 20 20 = S3 at F3 A3 A13 A23 r1 r2 H0 H1 F13 ⊢
  rw [e_X1_init_25]
  simp only [e_X1_init_0, e_X1_init_1, e_X1_init_4, e_X1_init_5, e_X1_init_7, e_X1_init_9, e_X1_init_12, e_X1_init_13, e_X1_init_15, e_X1_init_17, e_X1_init_20, e_X1_init_21, e_X1_init_23, e_X1_init_25, e_X1_init_28, e_X1_init_29, e_X1_init_32, e_X1_init_37, e_X1_init_38, e_X1_init_39, e_X1_init_42, e_X1_init_43, e_X1_init_44, e_X1_init_47, o_const, o_iload, o_aload, o_fload, o_dload, o_istore, o_astore, o_fstore, o_dstore, o_iinc, o_bin, o_div, o_un, o_i2l, o_i2f, o_i2d, o_f2d, o_fdiv, o_ddiv, o_lcmp, o_fcmp, o_dcmp, o_if, o_if2, o_goto, o_dup, o_dupx1, o_dup2, o_pop, o_getI, o_getR, o_putI, o_putR, o_iald, o_iast, o_bald, o_bast, o_zald, o_zast, o_aald, o_aast, o_jald, o_jast, o_dald, o_dast, o_alen, o_castA, o_new, o_newa, o_callv, o_callvN, o_calli, o_calls, o_objinit, o_iret, o_zret, o_fret, o_dret, o_aret, o_vret, o_throw, o_acopy, o_bcopy, o_clone, o_tsw, o_ldcS, o_kval, o_kcoder, o_klen, o_kald, o_tald, o_getSq, o_callk, o_callvH, gl, stl, stl2, pre2, va_rf, Value.category, catS, List.length_cons, List.length_nil, List.map_cons, List.map_nil, List.sum_cons, List.sum_nil, List.take_succ_cons, List.take_zero, List.drop_succ_cons, List.drop_zero, List.reverse_cons, List.reverse_nil, List.nil_append, List.cons_append, true_and, and_true, if_true, Nat.reduceAdd, Nat.reduceLT, Nat.reduceLeDiff, r1, r2.trans (p2.trans (q2.trans hk)), gL_sW, gL_sI, gL_sR, gL_sC, gL_nW, gK_sW, gK_sI, gK_sR, gK_sC, gK_nW, gN_sW, gN_sI, gN_sR, gN_sC, gN_nW, gC_sW, gC_sI, gC_sR, gC_sC, gC_nW, gZ_sW, gZ_sI, gZ_sR, gZ_sC, gZ_nW, cl_200]
  refine ⟨by decide, by have := F13.2.2.1; omega, by have := F13.2.2.2; omega, kn, i4, fun o ho => ?_⟩
  have F4 := fr_pn (S := S3) (t := 3) (a := k) (k := 2) (v := some b) (t' := kn) (n := 200) (z := 200) ho
  have A4 := ArrR.nw (S := sR S3 3 k 2 (some b)) (t := kn) (n := 200) (z := 200) ho
  have A14 := A13.fr F4 (hn _ _ i1)
  have A24 := A23.fr F4 (hn _ _ i2)
  have A34 := A3.fr F4 (hn _ _ i3)
  obtain ⟨s1, s2, -⟩ := F4.1 k r1
  have J0 : gR (nW (sR S3 3 k 2 (some b)) kn o 200 200) 3 k 0 = some i := by rw [gR_nWk, if_neg (fun w => absurd w.1 (by omega)), gR_sRk, if_neg (fun w => absurd w.2.2 (by decide))]; exact H0
  have J1 : gR (nW (sR S3 3 k 2 (some b)) kn o 200 200) 3 k 1 = some c := by rw [gR_nWk, if_neg (fun w => absurd w.1 (by omega)), gR_sRk, if_neg (fun w => absurd w.2.2 (by decide))]; exact H1
  have J2 : gR (nW (sR S3 3 k 2 (some b)) kn o 200 200) 3 k 2 = some b := by rw [gR_nWk, if_neg (fun w => absurd w.1 (by omega)), gR_sRk, if_pos ⟨rfl, rfl, rfl⟩]
  have F14 := F13.trans F4
  generalize nW (sR S3 3 k 2 (some b)) kn o 200 200 = S4 at F4 A4 A14 A24 A34 s1 s2 J0 J1 J2 F14 ⊢
  have k4 := s2.trans (r2.trans (p2.trans (q2.trans hk)))
  rw [e_X1_init_34]
  simp only [e_X1_init_0, e_X1_init_1, e_X1_init_4, e_X1_init_5, e_X1_init_7, e_X1_init_9, e_X1_init_12, e_X1_init_13, e_X1_init_15, e_X1_init_17, e_X1_init_20, e_X1_init_21, e_X1_init_23, e_X1_init_25, e_X1_init_28, e_X1_init_29, e_X1_init_32, e_X1_init_34, e_X1_init_37, e_X1_init_38, e_X1_init_39, e_X1_init_42, e_X1_init_43, e_X1_init_44, e_X1_init_47, o_const, o_iload, o_aload, o_fload, o_dload, o_istore, o_astore, o_fstore, o_dstore, o_iinc, o_bin, o_div, o_un, o_i2l, o_i2f, o_i2d, o_f2d, o_fdiv, o_ddiv, o_lcmp, o_fcmp, o_dcmp, o_if, o_if2, o_goto, o_dup, o_dupx1, o_dup2, o_pop, o_getI, o_getR, o_putI, o_putR, o_iald, o_iast, o_bald, o_bast, o_zald, o_zast, o_aald, o_aast, o_jald, o_jast, o_dald, o_dast, o_alen, o_castA, o_new, o_newa, o_callv, o_callvN, o_calli, o_calls, o_objinit, o_iret, o_zret, o_fret, o_dret, o_aret, o_vret, o_throw, o_acopy, o_bcopy, o_clone, o_tsw, o_ldcS, o_kval, o_kcoder, o_klen, o_kald, o_tald, o_getSq, o_callk, o_callvH, gl, stl, stl2, pre2, va_rf, Value.category, catS, List.length_cons, List.length_nil, List.map_cons, List.map_nil, List.sum_cons, List.sum_nil, List.take_succ_cons, List.take_zero, List.drop_succ_cons, List.drop_zero, List.reverse_cons, List.reverse_nil, List.nil_append, List.cons_append, true_and, and_true, if_true, Nat.reduceAdd, Nat.reduceLT, Nat.reduceLeDiff, s1, k4, gL_sW, gL_sI, gL_sR, gL_sC, gL_nW, gK_sW, gK_sI, gK_sR, gK_sC, gK_nW, gN_sW, gN_sI, gN_sR, gN_sC, gN_nW, gC_sW, gC_sI, gC_sR, gC_sC, gC_nW, gZ_sW, gZ_sI, gZ_sR, gZ_sC, gZ_nW, narI]
  have F5 := (Fr.sR S4 3 k 3 (some o)).trans ((Fr.sI (sR S4 3 k 3 (some o)) 3 k 4 0).trans (Fr.sI (sI (sR S4 3 k 3 (some o)) 3 k 4 0) 3 k 5 0))
  have hn5 : ∀ t a, 17 ≤ t → ¬ ((t = 3 ∧ a = k) ∨ (t = 3 ∧ a = k) ∨ (t = 3 ∧ a = k)) := fun t a h1 w => by omega
  refine h _ ⟨i, c, b, o, (F5.1 k s1).1, (F5.1 k s1).2.1.trans k4, ?_, ?_, ⟨by decide, by decide⟩, h17, ?_, ?_, ?_, ?_, A14.fr F5 (hn5 _ _ i1), A24.fr F5 (hn5 _ _ i2), A34.fr F5 (hn5 _ _ i3), A4.fr F5 (hn5 _ _ i4)⟩ ((F14.trans F5).mono (fun t a _ w => by
    rcases w with (((w | w) | w) | w) | w | w | w
    · exact w.elim
    all_goals exact w) (by decide) (by decide))
  · rw [gI_sIk, if_neg (fun w => absurd w.2.2 (by decide)), gI_sIk, if_pos ⟨rfl, rfl, rfl⟩]; rfl
  · rw [gI_sIk, if_pos ⟨rfl, rfl, rfl⟩]; rfl
  · rw [gR_sI, gR_sI, gR_sRk, if_neg (fun w => absurd w.2.2 (by decide))]; exact J0
  · rw [gR_sI, gR_sI, gR_sRk, if_neg (fun w => absurd w.2.2 (by decide))]; exact J1
  · rw [gR_sI, gR_sI, gR_sRk, if_neg (fun w => absurd w.2.2 (by decide))]; exact J2
  · rw [gR_sI, gR_sI, gR_sRk, if_pos ⟨rfl, rfl, rfl⟩]
end SPS
