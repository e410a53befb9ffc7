/-! A STATE, made and copied -/
def K00 : CKp := (0, 0, fun _ => 0, fun _ => 0, fun _ => 0, fun _ => 0)
def N00 : CSn := (0, fun _ => 0, fun _ => 0)
section SPS
variable {ks : Nat → Nat} {d : Nat} {Q : QP} {S : M9} {p B s : Nat} {A : ASet}
theorem sp_stateInit (hq : p ∈ gL S) (hk : gK S p = 9) (hB : 100 ≤ B) (hA : SetR S s A) (hV : SetV A) (hc : gC S + 10 ≤ cCM) (hz : gZ S + 321 ≤ cSM)
    (h : ∀ S', StateR S' p B 16 (A, aTo A, aSd A, K00, N00) → Fr S S' (fun t a => (t = 9 ∧ a = p) ∨ (B ≤ t ∧ t < B + 8)) 10 321 → (∀ x, gR S' 9 p 3 = some x → ¬ x ∈ gL S) → (∀ x, gR S' 9 p 4 = some x → ¬ x ∈ gL S) → Q (.inl none) S') : WG ks (d + 3) n_X7_init [.ref p, .ref s] S Q := by
  refine ⟨by simp [cat1, Value.category], by show (2 : Nat) ≤ 2; decide, ?_⟩
  show Run ks (WG ks (d + 2)) Q tb_X7_init 0 [some (.ref p), some (.ref s)] [] S
  have hn : ∀ t a, ¬ t = 9 → ¬ (t = 9 ∧ a = p) := fun t a h1 w => h1 w.1
  simp only [e_X7_init_0, e_X7_init_1, e_X7_init_4, e_X7_init_5, e_X7_init_7, e_X7_init_12, e_X7_init_13, e_X7_init_17, e_X7_init_20, e_X7_init_23, e_X7_init_24, e_X7_init_27, e_X7_init_28, e_X7_init_31, e_X7_init_34, e_X7_init_35, e_X7_init_37, e_X7_init_42, e_X7_init_43, e_X7_init_44, e_X7_init_47, o_const, o_iload, o_aload, o_fload, o_dload, o_istore, o_astore, o_fstore, o_dstore, o_iinc, o_bin, o_div, o_un, o_i2l, o_i2f, o_i2d, o_f2d, o_fdiv, o_ddiv, o_lcmp, o_fcmp, o_dcmp, o_if, o_if2, o_goto, o_dup, o_dupx1, o_dup2, o_pop, o_getI, o_getR, o_putI, o_putR, o_iald, o_iast, o_bald, o_bast, o_zald, o_zast, o_aald, o_aast, o_jald, o_jast, o_dald, o_dast, o_alen, o_castA, o_new, o_newa, o_callv, o_callvN, o_calli, o_calls, o_objinit, o_iret, o_zret, o_fret, o_dret, o_aret, o_vret, o_throw, o_acopy, o_bcopy, o_clone, o_tsw, o_ldcS, o_kval, o_kcoder, o_klen, o_kald, o_tald, o_getSq, o_callk, o_callvH, gl, stl, stl2, pre2, va_rf, Value.category, catS, List.length_cons, List.length_nil, List.map_cons, List.map_nil, List.sum_cons, List.sum_nil, List.take_succ_cons, List.take_zero, List.drop_succ_cons, List.drop_zero, List.reverse_cons, List.reverse_nil, List.nil_append, List.cons_append, true_and, and_true, if_true, Nat.reduceAdd, Nat.reduceLT, Nat.reduceLeDiff, hq, hk, cl_10]
  refine ⟨by decide, by omega, by omega, B, by omega, fun tb htb => ?_⟩
  have F1 := Fr.nW S B tb 10 10 htb
  have A1 := ArrR.nw (t := B) (n := 10) (z := 10) htb
  obtain ⟨q1, q2, -⟩ := F1.1 p hq
  generalize nW S B tb 10 10 = S1 at F1 A1 q1 q2 ⊢
  rw [e_X7_init_9]
  simp only [e_X7_init_0, e_X7_init_1, e_X7_init_4, e_X7_init_5, e_X7_init_7, e_X7_init_9, e_X7_init_12, e_X7_init_13, e_X7_init_17, e_X7_init_20, e_X7_init_23, e_X7_init_24, e_X7_init_27, e_X7_init_28, e_X7_init_31, e_X7_init_34, e_X7_init_35, e_X7_init_37, e_X7_init_42, e_X7_init_43, e_X7_init_44, e_X7_init_47, o_const, o_iload, o_aload, o_fload, o_dload, o_istore, o_astore, o_fstore, o_dstore, o_iinc, o_bin, o_div, o_un, o_i2l, o_i2f, o_i2d, o_f2d, o_fdiv, o_ddiv, o_lcmp, o_fcmp, o_dcmp, o_if, o_if2, o_goto, o_dup, o_dupx1, o_dup2, o_pop, o_getI, o_getR, o_putI, o_putR, o_iald, o_iast, o_bald, o_bast, o_zald, o_zast, o_aald, o_aast, o_jald, o_jast, o_dald, o_dast, o_alen, o_castA, o_new, o_newa, o_callv, o_callvN, o_calli, o_calls, o_objinit, o_iret, o_zret, o_fret, o_dret, o_aret, o_vret, o_throw, o_acopy, o_bcopy, o_clone, o_tsw, o_ldcS, o_kval, o_kcoder, o_klen, o_kald, o_tald, o_getSq, o_callk, o_callvH, gl, stl, stl2, pre2, va_rf, Value.category, catS, List.length_cons, List.length_nil, List.map_cons, List.map_nil, List.sum_cons, List.sum_nil, List.take_succ_cons, List.take_zero, List.drop_succ_cons, List.drop_zero, List.reverse_cons, List.reverse_nil, List.nil_append, List.cons_append, true_and, and_true, if_true, Nat.reduceAdd, Nat.reduceLT, Nat.reduceLeDiff, q1, q2.trans hk, gL_sW, gL_sI, gL_sR, gL_sC, gL_nW, gK_sW, gK_sI, gK_sR, gK_sC, gK_nW, gN_sW, gN_sI, gN_sR, gN_sC, gN_nW, gC_sW, gC_sI, gC_sR, gC_sC, gC_nW, gZ_sW, gZ_sI, gZ_sR, gZ_sC, gZ_nW, cl_10]
  refine ⟨by have := F1.2.2.1; omega, by have := F1.2.2.2; omega, fun kp hkp => ?_⟩
  have F2 := fr_pn (S := S1) (t := 9) (a := p) (k := 1) (v := some tb) (t' := 3) (n := 0) (z := 6) hkp
  have Kq : kp ∈ gL (nW (sR S1 9 p 1 (some tb)) 3 kp 0 6) := List.mem_append_right _ List.mem_cons_self
  have Kk : gK (nW (sR S1 9 p 1 (some tb)) 3 kp 0 6) kp = 3 := by rw [gK_nW, if_pos rfl]
  have A12 := A1.fr F2 (hn _ _ (by omega))
  obtain ⟨p1, p2, -⟩ := F2.1 p q1
  have G1 : gR (nW (sR S1 9 p 1 (some tb)) 3 kp 0 6) 9 p 1 = some tb := by rw [gR_nWk, if_neg (fun w => absurd w.1 (by omega)), gR_sRk, if_pos ⟨rfl, rfl, rfl⟩]
  have F12 := F1.trans F2
  have kpS : ¬ kp ∈ gL S1 := hkp
  generalize nW (sR S1 9 p 1 (some tb)) 3 kp 0 6 = S2 at F2 Kq Kk A12 p1 p2 G1 F12 ⊢
  rw [e_X7_init_16]
  simp only [e_X7_init_0, e_X7_init_1, e_X7_init_4, e_X7_init_5, e_X7_init_7, e_X7_init_9, e_X7_init_12, e_X7_init_13, e_X7_init_16, e_X7_init_17, e_X7_init_20, e_X7_init_23, e_X7_init_24, e_X7_init_27, e_X7_init_28, e_X7_init_31, e_X7_init_34, e_X7_init_35, e_X7_init_37, e_X7_init_42, e_X7_init_43, e_X7_init_44, e_X7_init_47, o_const, o_iload, o_aload, o_fload, o_dload, o_istore, o_astore, o_fstore, o_dstore, o_iinc, o_bin, o_div, o_un, o_i2l, o_i2f, o_i2d, o_f2d, o_fdiv, o_ddiv, o_lcmp, o_fcmp, o_dcmp, o_if, o_if2, o_goto, o_dup, o_dupx1, o_dup2, o_pop, o_getI, o_getR, o_putI, o_putR, o_iald, o_iast, o_bald, o_bast, o_zald, o_zast, o_aald, o_aast, o_jald, o_jast, o_dald, o_dast, o_alen, o_castA, o_new, o_newa, o_callv, o_callvN, o_calli, o_calls, o_objinit, o_iret, o_zret, o_fret, o_dret, o_aret, o_vret, o_throw, o_acopy, o_bcopy, o_clone, o_tsw, o_ldcS, o_kval, o_kcoder, o_klen, o_kald, o_tald, o_getSq, o_callk, o_callvH, gl, stl, stl2, pre2, va_rf, Value.category, catS, List.length_cons, List.length_nil, List.map_cons, List.map_nil, List.sum_cons, List.sum_nil, List.take_succ_cons, List.take_zero, List.drop_succ_cons, List.drop_zero, List.reverse_cons, List.reverse_nil, List.nil_append, List.cons_append, true_and, and_true, if_true, Nat.reduceAdd, Nat.reduceLT, Nat.reduceLeDiff, p1, p2.trans (q2.trans hk), gL_sW, gL_sI, gL_sR, gL_sC, gL_nW, gK_sW, gK_sI, gK_sR, gK_sC, gK_nW, gN_sW, gN_sI, gN_sR, gN_sC, gN_nW, gC_sW, gC_sI, gC_sR, gC_sC, gC_nW, gZ_sW, gZ_sI, gZ_sR, gZ_sC, gZ_nW]
  refine ⟨⟨kp, _, rfl, rfl⟩, sp_keptInit (ki := B + 1) (kc := B + 2) (kb := B + 3) (kn := B + 4) Kq Kk ⟨by omega, by omega, by omega, by omega, by omega, by omega, by omega, by omega, by omega, by omega⟩ (by have := F12.2.2.1; omega) (by have := F12.2.2.2; omega) ?_⟩
  intro S3 hK3 F3
  have k2 := p2.trans (q2.trans hk)
  obtain ⟨r1, r2, -⟩ := F3.1 p p1
  have hn3 : ∀ t a, ¬ t = 3 → ¬ (t = 3 ∧ a = kp) := fun t a h1 w => h1 w.1
  have G13 : gR S3 9 p 1 = some tb := by rw [(F3.2.1 9 p p1 (hn3 _ _ (by decide))).2.1]; exact G1
  have A13 := A12.fr F3 (hn3 _ _ (by omega))
  have F13 := F12.trans F3
  simp only [behN, e_X7_init_0, e_X7_init_1, e_X7_init_4, e_X7_init_5, e_X7_init_7, e_X7_init_9, e_X7_init_12, e_X7_init_13, e_X7_init_16, e_X7_init_17, e_X7_init_20, e_X7_init_23, e_X7_init_24, e_X7_init_27, e_X7_init_28, e_X7_init_34, e_X7_init_35, e_X7_init_37, e_X7_init_42, e_X7_init_43, e_X7_init_44, e_X7_init_47, o_const, o_iload, o_aload, o_fload, o_dload, o_istore, o_astore, o_fstore, o_dstore, o_iinc, o_bin, o_div, o_un, o_i2l, o_i2f, o_i2d, o_f2d, o_fdiv, o_ddiv, o_lcmp, o_fcmp, o_dcmp, o_if, o_if2, o_goto, o_dup, o_dupx1, o_dup2, o_pop, o_getI, o_getR, o_putI, o_putR, o_iald, o_iast, o_bald, o_bast, o_zald, o_zast, o_aald, o_aast, o_jald, o_jast, o_dald, o_dast, o_alen, o_castA, o_new, o_newa, o_callv, o_callvN, o_calli, o_calls, o_objinit, o_iret, o_zret, o_fret, o_dret, o_aret, o_vret, o_throw, o_acopy, o_bcopy, o_clone, o_tsw, o_ldcS, o_kval, o_kcoder, o_klen, o_kald, o_tald, o_getSq, o_callk, o_callvH, gl, stl, stl2, pre2, va_rf, Value.category, catS, List.length_cons, List.length_nil, List.map_cons, List.map_nil, List.sum_cons, List.sum_nil, List.take_succ_cons, List.take_zero, List.drop_succ_cons, List.drop_zero, List.reverse_cons, List.reverse_nil, List.nil_append, List.cons_append, true_and, and_true, if_true, Nat.reduceAdd, Nat.reduceLT, Nat.reduceLeDiff, r1, r2.trans k2, gL_sW, gL_sI, gL_sR, gL_sC, gL_nW, gK_sW, gK_sI, gK_sR, gK_sC, gK_nW, gN_sW, gN_sI, gN_sR, gN_sC, gN_nW, gC_sW, gC_sI, gC_sR, gC_sC, gC_nW, gZ_sW, gZ_sI, gZ_sR, gZ_sC, gZ_nW]
  refine ⟨by have := F13.2.2.1; omega, by have := F13.2.2.2; omega, fun sn hsn => ?_⟩
  have F4 := fr_pn (S := S3) (t := 9) (a := p) (k := 3) (v := some kp) (t' := 6) (n := 0) (z := 3) hsn
  have Sq : sn ∈ gL (nW (sR S3 9 p 3 (some kp)) 6 sn 0 3) := List.mem_append_right _ List.mem_cons_self
  have Sk : gK (nW (sR S3 9 p 3 (some kp)) 6 sn 0 3) sn = 6 := by rw [gK_nW, if_pos rfl]
  have A14 := A13.fr F4 (hn _ _ (by omega))
  have K4 := KeptR.fr hK3 F4 (hn _ _ (by decide)) (fun a => hn _ _ (by omega)) (fun a => hn _ _ (by omega)) (fun a => hn _ _ (by omega)) (fun a => hn _ _ (by omega))
  obtain ⟨s1, s2, -⟩ := F4.1 p r1
  have H1 : gR (nW (sR S3 9 p 3 (some kp)) 6 sn 0 3) 9 p 1 = some tb := by rw [gR_nWk, if_neg (fun w => absurd w.1 (by omega)), gR_sRk, if_neg (fun w => absurd w.2.2 (by decide))]; exact G13
  have H3 : gR (nW (sR S3 9 p 3 (some kp)) 6 sn 0 3) 9 p 3 = some kp := by rw [gR_nWk, if_neg (fun w => absurd w.1 (by omega)), gR_sRk, if_pos ⟨rfl, rfl, rfl⟩]
  have F14 := F13.trans F4
  have snS : ¬ sn ∈ gL S3 := hsn
  generalize nW (sR S3 9 p 3 (some kp)) 6 sn 0 3 = S4 at F4 Sq Sk A14 K4 s1 s2 H1 H3 F14 ⊢
  have k4 := s2.trans (r2.trans k2)
  refine ⟨⟨sn, _, rfl, rfl⟩, sp_seenInit (kc := B + 5) (kt := B + 6) Sq Sk ⟨by omega, by omega, by omega⟩ (by have := F14.2.2.1; omega) (by have := F14.2.2.2; omega) ?_⟩
  intro S5 hN5 F5 hA5
  obtain ⟨t1, t2, -⟩ := F5.1 p s1
  have hn6 : ∀ t a, ¬ t = 6 → ¬ (t = 6 ∧ a = sn) := fun t a h1 w => h1 w.1
  have eR : gR S5 9 p = gR S4 9 p := (F5.2.1 9 p s1 (hn6 _ _ (by decide))).2.1
  have A15 := A14.fr F5 (hn6 _ _ (by omega))
  have K5 := KeptR.fr K4 F5 (hn6 _ _ (by decide)) (fun a => hn6 _ _ (by omega)) (fun a => hn6 _ _ (by omega)) (fun a => hn6 _ _ (by omega)) (fun a => hn6 _ _ (by omega))
  have F15 := F14.trans F5
  simp only [behN, e_X7_init_0, e_X7_init_1, e_X7_init_4, e_X7_init_5, e_X7_init_7, e_X7_init_9, e_X7_init_12, e_X7_init_13, e_X7_init_16, e_X7_init_17, e_X7_init_20, e_X7_init_23, e_X7_init_24, e_X7_init_27, e_X7_init_28, e_X7_init_31, e_X7_init_34, e_X7_init_35, e_X7_init_37, e_X7_init_42, e_X7_init_43, e_X7_init_44, e_X7_init_47, o_const, o_iload, o_aload, o_fload, o_dload, o_istore, o_astore, o_fstore, o_dstore, o_iinc, o_bin, o_div, o_un, o_i2l, o_i2f, o_i2d, o_f2d, o_fdiv, o_ddiv, o_lcmp, o_fcmp, o_dcmp, o_if, o_if2, o_goto, o_dup, o_dupx1, o_dup2, o_pop, o_getI, o_getR, o_putI, o_putR, o_iald, o_iast, o_bald, o_bast, o_zald, o_zast, o_aald, o_aast, o_jald, o_jast, o_dald, o_dast, o_alen, o_castA, o_new, o_newa, o_callv, o_callvN, o_calli, o_calls, o_objinit, o_iret, o_zret, o_fret, o_dret, o_aret, o_vret, o_throw, o_acopy, o_bcopy, o_clone, o_tsw, o_ldcS, o_kval, o_kcoder, o_klen, o_kald, o_tald, o_getSq, o_callk, o_callvH, gl, stl, stl2, pre2, va_rf, Value.category, catS, List.length_cons, List.length_nil, List.map_cons, List.map_nil, List.sum_cons, List.sum_nil, List.take_succ_cons, List.take_zero, List.drop_succ_cons, List.drop_zero, List.reverse_cons, List.reverse_nil, List.nil_append, List.cons_append, true_and, and_true, if_true, Nat.reduceAdd, Nat.reduceLT, Nat.reduceLeDiff, t1, t2.trans k4, gL_sW, gL_sI, gL_sR, gL_sC, gL_nW, gK_sW, gK_sI, gK_sR, gK_sC, gK_nW, gN_sW, gN_sI, gN_sR, gN_sC, gN_nW, gC_sW, gC_sI, gC_sR, gC_sC, gC_nW, gZ_sW, gZ_sI, gZ_sR, gZ_sC, gZ_nW, cl_10]
  refine ⟨by decide, by have := F15.2.2.1; omega, by have := F15.2.2.2; omega, B + 7, by omega, fun dr hdr => ?_⟩
  have F6 := fr_pn (S := S5) (t := 9) (a := p) (k := 4) (v := some sn) (t' := B + 7) (n := 10) (z := 10) hdr
  have D6 := ArrR.nw (S := sR S5 9 p 4 (some sn)) (t := B + 7) (n := 10) (z := 10) hdr
  have A16 := A15.fr F6 (hn _ _ (by omega))
  have K6 := KeptR.fr K5 F6 (hn _ _ (by decide)) (fun a => hn _ _ (by omega)) (fun a => hn _ _ (by omega)) (fun a => hn _ _ (by omega)) (fun a => hn _ _ (by omega))
  have N6 := SeenR.fr hN5 F6 (hn _ _ (by decide)) (fun a => hn _ _ (by omega)) (fun a => hn _ _ (by omega))
  obtain ⟨u1, u2, -⟩ := F6.1 p t1
  have hb6 : ¬ 9 = B + 7 := by omega
  have J1 : gR (nW (sR S5 9 p 4 (some sn)) (B + 7) dr 10 10) 9 p 1 = some tb := by rw [gR_nWk, if_neg (fun w => hb6 w.1), gR_sRk, if_neg (fun w => absurd w.2.2 (by decide)), eR]; exact H1
  have J3 : gR (nW (sR S5 9 p 4 (some sn)) (B + 7) dr 10 10) 9 p 3 = some kp := by rw [gR_nWk, if_neg (fun w => hb6 w.1), gR_sRk, if_neg (fun w => absurd w.2.2 (by decide)), eR]; exact H3
  have J4 : gR (nW (sR S5 9 p 4 (some sn)) (B + 7) dr 10 10) 9 p 4 = some sn := by rw [gR_nWk, if_neg (fun w => hb6 w.1), gR_sRk, if_pos ⟨rfl, rfl, rfl⟩]
  have F16 := F15.trans F6
  generalize nW (sR S5 9 p 4 (some sn)) (B + 7) dr 10 10 = S6 at F6 D6 A16 K6 N6 u1 u2 J1 J3 J4 F16 ⊢
  have k6 := u2.trans (t2.trans k4)
  rw [e_X7_init_39]
  simp only [e_X7_init_0, e_X7_init_1, e_X7_init_4, e_X7_init_5, e_X7_init_7, e_X7_init_9, e_X7_init_12, e_X7_init_13, e_X7_init_16, e_X7_init_17, e_X7_init_20, e_X7_init_23, e_X7_init_24, e_X7_init_27, e_X7_init_28, e_X7_init_31, e_X7_init_34, e_X7_init_35, e_X7_init_37, e_X7_init_39, e_X7_init_42, e_X7_init_43, e_X7_init_44, e_X7_init_47, o_const, o_iload, o_aload, o_fload, o_dload, o_istore, o_astore, o_fstore, o_dstore, o_iinc, o_bin, o_div, o_un, o_i2l, o_i2f, o_i2d, o_f2d, o_fdiv, o_ddiv, o_lcmp, o_fcmp, o_dcmp, o_if, o_if2, o_goto, o_dup, o_dupx1, o_dup2, o_pop, o_getI, o_getR, o_putI, o_putR, o_iald, o_iast, o_bald, o_bast, o_zald, o_zast, o_aald, o_aast, o_jald, o_jast, o_dald, o_dast, o_alen, o_castA, o_new, o_newa, o_callv, o_callvN, o_calli, o_calls, o_objinit, o_iret, o_zret, o_fret, o_dret, o_aret, o_vret, o_throw, o_acopy, o_bcopy, o_clone, o_tsw, o_ldcS, o_kval, o_kcoder, o_klen, o_kald, o_tald, o_getSq, o_callk, o_callvH, gl, stl, stl2, pre2, va_rf, Value.category, catS, List.length_cons, List.length_nil, List.map_cons, List.map_nil, List.sum_cons, List.sum_nil, List.take_succ_cons, List.take_zero, List.drop_succ_cons, List.drop_zero, List.reverse_cons, List.reverse_nil, List.nil_append, List.cons_append, true_and, and_true, if_true, Nat.reduceAdd, Nat.reduceLT, Nat.reduceLeDiff, u1, k6, gL_sW, gL_sI, gL_sR, gL_sC, gL_nW, gK_sW, gK_sI, gK_sR, gK_sC, gK_nW, gN_sW, gN_sI, gN_sR, gN_sC, gN_nW, gC_sW, gC_sI, gC_sR, gC_sC, gC_nW, gZ_sW, gZ_sI, gZ_sR, gZ_sC, gZ_nW]
  have F7 := Fr.sR S6 9 p 5 (some dr)
  have F17 := (F16.trans F7).mono (W' := fun t a => (t = 9 ∧ a = p) ∨ (t = 3 ∧ a = kp) ∨ (t = 6 ∧ a = sn)) (fun t a _ w => by
    rcases w with ((((((w | w) | w) | w) | w) | w) | w)
    · exact w.elim
    · exact Or.inl w
    · exact Or.inr (Or.inl w)
    · exact Or.inl w
    · exact Or.inr (Or.inr w)
    · exact Or.inl w
    · exact Or.inl w) (Nat.le_refl _) (Nat.le_refl _)
  have hA7 := hA.fr F17 (fun w => by omega) (fun t a h1 h2 w => by omega)
  have hW7 : StateW (sR S6 9 p 5 (some dr)) p B 16 (fun _ => 0) K00 N00 := ⟨tb, kp, sn, dr, (F7.1 p u1).1, (F7.1 p u1).2.1.trans k6, by rw [gR_sRk, if_neg (fun w => absurd w.2.2 (by decide))]; exact J1, by rw [gR_sRk, if_neg (fun w => absurd w.2.2 (by decide))]; exact J3, by rw [gR_sRk, if_neg (fun w => absurd w.2.2 (by decide))]; exact J4, by rw [gR_sRk, if_pos ⟨rfl, rfl, rfl⟩], A16.fr F7 (hn _ _ (by omega)),
    KeptR.fr K6 F7 (hn _ _ (by decide)) (fun a => hn _ _ (by omega)) (fun a => hn _ _ (by omega)) (fun a => hn _ _ (by omega)) (fun a => hn _ _ (by omega)), SeenR.fr N6 F7 (hn _ _ (by decide)) (fun a => hn _ _ (by omega)) (fun a => hn _ _ (by omega)), ⟨_, D6.fr F7 (hn _ _ (by omega))⟩, hB⟩
  refine ⟨⟨p, _, rfl, rfl, (F7.1 p u1).1, (F7.1 p u1).2.1.trans k6⟩, sp_begin hW7 hA7 hV ?_⟩
  intro S8 hR8 F8 e3 e4
  simp only [behind, e_X7_init_0, e_X7_init_1, e_X7_init_4, e_X7_init_5, e_X7_init_7, e_X7_init_9, e_X7_init_12, e_X7_init_13, e_X7_init_16, e_X7_init_17, e_X7_init_20, e_X7_init_23, e_X7_init_24, e_X7_init_27, e_X7_init_28, e_X7_init_31, e_X7_init_34, e_X7_init_35, e_X7_init_37, e_X7_init_39, e_X7_init_42, e_X7_init_43, e_X7_init_44, e_X7_init_47, o_const, o_iload, o_aload, o_fload, o_dload, o_istore, o_astore, o_fstore, o_dstore, o_iinc, o_bin, o_div, o_un, o_i2l, o_i2f, o_i2d, o_f2d, o_fdiv, o_ddiv, o_lcmp, o_fcmp, o_dcmp, o_if, o_if2, o_goto, o_dup, o_dupx1, o_dup2, o_pop, o_getI, o_getR, o_putI, o_putR, o_iald, o_iast, o_bald, o_bast, o_zald, o_zast, o_aald, o_aast, o_jald, o_jast, o_dald, o_dast, o_alen, o_castA, o_new, o_newa, o_callv, o_callvN, o_calli, o_calls, o_objinit, o_iret, o_zret, o_fret, o_dret, o_aret, o_vret, o_throw, o_acopy, o_bcopy, o_clone, o_tsw, o_ldcS, o_kval, o_kcoder, o_klen, o_kald, o_tald, o_getSq, o_callk, o_callvH, gl, stl, stl2, pre2, va_rf, Value.category, catS, List.length_cons, List.length_nil, List.map_cons, List.map_nil, List.sum_cons, List.sum_nil, List.take_succ_cons, List.take_zero, List.drop_succ_cons, List.drop_zero, List.reverse_cons, List.reverse_nil, List.nil_append, List.cons_append, true_and, and_true, if_true, Nat.reduceAdd, Nat.reduceLT, Nat.reduceLeDiff]
  have L3 : gR (sR S6 9 p 5 (some dr)) 9 p 3 = some kp := by rw [gR_sRk, if_neg (fun w => absurd w.2.2 (by decide))]; exact J3
  have L4 : gR (sR S6 9 p 5 (some dr)) 9 p 4 = some sn := by rw [gR_sRk, if_neg (fun w => absurd w.2.2 (by decide))]; exact J4
  have nk : ¬ kp ∈ gL S := fun w => kpS (F1.1 _ w).1
  have ns : ¬ sn ∈ gL S := fun w => snS (F13.1 _ w).1
  refine h _ hR8 ((F17.trans F8).mono (fun t a ha w => ?_) (by decide) (by decide)) (fun x hx => ?_) (fun x hx => ?_)
  · rcases w with (w | w | w) | w | w | w | w
    · exact Or.inl w
    · exact absurd (w.2 ▸ ha) nk
    · exact absurd (w.2 ▸ ha) ns
    · exact Or.inl w
    · exact Or.inr w
    · rw [L3] at w; cases w.2; exact absurd ha nk
    · rw [L4] at w; cases w.2; exact absurd ha ns
  · rw [e3, L3] at hx; cases hx; exact nk
  · rw [e4, L4] at hx; cases hx; exact ns
end SPS
