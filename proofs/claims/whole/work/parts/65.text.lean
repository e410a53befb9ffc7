/-! THE READER: the whole text; what it reads is a setup; made -/
theorem pCom_wm {T : Nat → Int32} {n k k' : Nat} {A A' : ASet} (h : pCom T n A k = .inr (A', k')) : aWm A' = aWm A := by
  unfold pCom at h
  split at h
  · cases h
  · split at h
    · cases h
    · split at h
      · cases h
      · cases h; rfl
theorem pCms_wm {T : Nat → Int32} {n k' : Nat} {A' : ASet} : ∀ r k A, aWm A = 0 → pCms T n r A k = .inr (A', k') → aWm A' = 0 := by
  intro r
  induction r with
  | zero =>
    intro k A hw h
    simp only [pCms] at h
    split at h
    · cases h
    · cases h; exact hw
  | succ r ih =>
    intro k A hw h
    simp only [pCms] at h
    split at h
    · split at h
      · cases h
      · rename_i e
        exact ih _ _ ((pCom_wm e).trans hw) h
    · split at h
      · cases h
      · cases h; exact hw
section SPS
variable {ks : Nat → Nat} {d : Nat} {Q : QP} {S : M9} {p tk n k s : Nat} {T : Nat → Int32} {nu er ep : Int32} {A : ASet}
theorem sp_readText (hR : RdR S p tk T n 0 s nu er ep) (hA : SetR S s A0s) (h0 : ∀ S' c q k' nu', pAll T n = .inl (c, q) → RdR S' p tk T n k' s nu' c (nI q) → Fr S S' (RsA S p s) 0 0 → Q (.inl (some (.int 0))) S')
    (h1 : ∀ S' A' k' nu', pAll T n = .inr A' → RdR S' p tk T n k' s nu' er ep → SetR S' s A' → Fr S S' (RsA S p s) 0 0 → Q (.inl (some (.int 1))) S') : WG ks (d + 8) n_X3_readText [.ref p] S Q := by
  refine ⟨by simp [cat1, Value.category], by show (1 : Nat) ≤ 1; decide, ?_⟩
  show Run ks (WG ks (d + 7)) Q tb_X3_readText 0 [some (.ref p)] [] S
  have hRc := hR
  obtain ⟨t, g1, g2, -⟩ := hRc
  unfold pAll at h0 h1
  simp only [e_X3_readText_0, e_X3_readText_1, e_X3_readText_4, e_X3_readText_7, e_X3_readText_8, e_X3_readText_11, e_X3_readText_14, e_X3_readText_15, e_X3_readText_18, e_X3_readText_21, e_X3_readText_22, e_X3_readText_25, e_X3_readText_28, e_X3_readText_29, e_X3_readText_32, e_X3_readText_33, o_const, o_iload, o_aload, o_fload, o_dload, o_istore, o_astore, o_fstore, o_dstore, o_iinc, o_bin, o_div, o_un, o_i2l, o_i2f, o_i2d, o_f2d, o_fdiv, o_ddiv, o_lcmp, o_fcmp, o_dcmp, o_if, o_if2, o_goto, o_dup, o_dupx1, o_dup2, o_pop, o_getI, o_getR, o_putI, o_putR, o_iald, o_iast, o_bald, o_bast, o_zald, o_zast, o_aald, o_aast, o_jald, o_jast, o_dald, o_dast, o_alen, o_castA, o_new, o_newa, o_callv, o_callvN, o_calli, o_calls, o_objinit, o_iret, o_zret, o_fret, o_dret, o_aret, o_vret, o_throw, o_acopy, o_bcopy, o_clone, o_tsw, o_ldcS, o_kval, o_kcoder, o_klen, o_kald, o_tald, o_getSq, o_callk, o_callvH, gl, stl, stl2, pre2, va_rf, Value.category, catS, List.length_cons, List.length_nil, List.map_cons, List.map_nil, List.sum_cons, List.sum_nil, List.take_succ_cons, List.take_zero, List.drop_succ_cons, List.drop_zero, List.reverse_cons, List.reverse_nil, List.nil_append, List.cons_append, true_and, and_true, if_true, Nat.reduceAdd, Nat.reduceLT, Nat.reduceLeDiff, g1, g2]
  refine ⟨⟨p, _, rfl, rfl, g1, g2⟩, sp_readComparators hR hA rfl ?_ ?_⟩
  · intro S1 c q k' nu' he hR1 F1
    simp only [he] at h0
    simp only [behind, e_X3_readText_0, e_X3_readText_1, e_X3_readText_4, e_X3_readText_7, e_X3_readText_8, e_X3_readText_11, e_X3_readText_14, e_X3_readText_15, e_X3_readText_18, e_X3_readText_21, e_X3_readText_22, e_X3_readText_25, e_X3_readText_28, e_X3_readText_29, e_X3_readText_32, e_X3_readText_33, o_const, o_iload, o_aload, o_fload, o_dload, o_istore, o_astore, o_fstore, o_dstore, o_iinc, o_bin, o_div, o_un, o_i2l, o_i2f, o_i2d, o_f2d, o_fdiv, o_ddiv, o_lcmp, o_fcmp, o_dcmp, o_if, o_if2, o_goto, o_dup, o_dupx1, o_dup2, o_pop, o_getI, o_getR, o_putI, o_putR, o_iald, o_iast, o_bald, o_bast, o_zald, o_zast, o_aald, o_aast, o_jald, o_jast, o_dald, o_dast, o_alen, o_castA, o_new, o_newa, o_callv, o_callvN, o_calli, o_calls, o_objinit, o_iret, o_zret, o_fret, o_dret, o_aret, o_vret, o_throw, o_acopy, o_bcopy, o_clone, o_tsw, o_ldcS, o_kval, o_kcoder, o_klen, o_kald, o_tald, o_getSq, o_callk, o_callvH, gl, stl, stl2, pre2, va_rf, Value.category, catS, List.length_cons, List.length_nil, List.map_cons, List.map_nil, List.sum_cons, List.sum_nil, List.take_succ_cons, List.take_zero, List.drop_succ_cons, List.drop_zero, List.reverse_cons, List.reverse_nil, List.nil_append, List.cons_append, true_and, and_true, if_true, Nat.reduceAdd, Nat.reduceLT, Nat.reduceLeDiff]
    exact ⟨fun _ => ⟨rfl, h0 S1 c q k' nu' rfl hR1 F1⟩, fun z => absurd trivial z⟩
  intro S1 A1 k1 nu1 he hR1 hA1 F1 hg1
  simp only [he] at h0 h1
  have hcm := pCms_cm 3 0 A0s rfl he
  have hRd := hR1
  obtain ⟨t1, x1, x2, -⟩ := hRd
  simp only [behind, e_X3_readText_0, e_X3_readText_1, e_X3_readText_4, e_X3_readText_7, e_X3_readText_8, e_X3_readText_11, e_X3_readText_14, e_X3_readText_15, e_X3_readText_18, e_X3_readText_21, e_X3_readText_22, e_X3_readText_25, e_X3_readText_28, e_X3_readText_29, e_X3_readText_32, e_X3_readText_33, o_const, o_iload, o_aload, o_fload, o_dload, o_istore, o_astore, o_fstore, o_dstore, o_iinc, o_bin, o_div, o_un, o_i2l, o_i2f, o_i2d, o_f2d, o_fdiv, o_ddiv, o_lcmp, o_fcmp, o_dcmp, o_if, o_if2, o_goto, o_dup, o_dupx1, o_dup2, o_pop, o_getI, o_getR, o_putI, o_putR, o_iald, o_iast, o_bald, o_bast, o_zald, o_zast, o_aald, o_aast, o_jald, o_jast, o_dald, o_dast, o_alen, o_castA, o_new, o_newa, o_callv, o_callvN, o_calli, o_calls, o_objinit, o_iret, o_zret, o_fret, o_dret, o_aret, o_vret, o_throw, o_acopy, o_bcopy, o_clone, o_tsw, o_ldcS, o_kval, o_kcoder, o_klen, o_kald, o_tald, o_getSq, o_callk, o_callvH, gl, stl, stl2, pre2, va_rf, Value.category, catS, List.length_cons, List.length_nil, List.map_cons, List.map_nil, List.sum_cons, List.sum_nil, List.take_succ_cons, List.take_zero, List.drop_succ_cons, List.drop_zero, List.reverse_cons, List.reverse_nil, List.nil_append, List.cons_append, true_and, and_true, if_true, Nat.reduceAdd, Nat.reduceLT, Nat.reduceLeDiff, x1, x2]
  refine ⟨fun z => absurd z (by decide), fun _ => ⟨⟨p, _, rfl, rfl, x1, x2⟩, sp_readWeights hR1 hA1 (pCms_wm 3 0 A0s rfl he) hcm ?_ ?_⟩⟩
  · intro S2 c q k' nu' he2 hR2 F2
    simp only [he2] at h0
    simp only [behind, e_X3_readText_0, e_X3_readText_1, e_X3_readText_4, e_X3_readText_7, e_X3_readText_8, e_X3_readText_11, e_X3_readText_14, e_X3_readText_15, e_X3_readText_18, e_X3_readText_21, e_X3_readText_22, e_X3_readText_25, e_X3_readText_28, e_X3_readText_29, e_X3_readText_32, e_X3_readText_33, o_const, o_iload, o_aload, o_fload, o_dload, o_istore, o_astore, o_fstore, o_dstore, o_iinc, o_bin, o_div, o_un, o_i2l, o_i2f, o_i2d, o_f2d, o_fdiv, o_ddiv, o_lcmp, o_fcmp, o_dcmp, o_if, o_if2, o_goto, o_dup, o_dupx1, o_dup2, o_pop, o_getI, o_getR, o_putI, o_putR, o_iald, o_iast, o_bald, o_bast, o_zald, o_zast, o_aald, o_aast, o_jald, o_jast, o_dald, o_dast, o_alen, o_castA, o_new, o_newa, o_callv, o_callvN, o_calli, o_calls, o_objinit, o_iret, o_zret, o_fret, o_dret, o_aret, o_vret, o_throw, o_acopy, o_bcopy, o_clone, o_tsw, o_ldcS, o_kval, o_kcoder, o_klen, o_kald, o_tald, o_getSq, o_callk, o_callvH, gl, stl, stl2, pre2, va_rf, Value.category, catS, List.length_cons, List.length_nil, List.map_cons, List.map_nil, List.sum_cons, List.sum_nil, List.take_succ_cons, List.take_zero, List.drop_succ_cons, List.drop_zero, List.reverse_cons, List.reverse_nil, List.nil_append, List.cons_append, true_and, and_true, if_true, Nat.reduceAdd, Nat.reduceLT, Nat.reduceLeDiff]
    exact ⟨fun _ => ⟨rfl, h0 S2 c q k' nu' rfl hR2 ((F1.trans F2).mono (fun _ _ _ w => w.elim id (fun w => RsA.of w hg1)) (by decide) (by decide))⟩, fun z => absurd trivial z⟩
  intro S2 A2 k2 nu2 he2 hR2 hA2 F2 hg2
  simp only [he2] at h0 h1
  have F02 : Fr S S2 (RsA S p s) 0 0 := (F1.trans F2).mono (fun _ _ _ w => w.elim id (fun w => RsA.of w hg1)) (by decide) (by decide)
  have hg02 := hg2.trans hg1
  have hRe := hR2
  obtain ⟨t2, y1, y2, -⟩ := hRe
  simp only [behind, e_X3_readText_0, e_X3_readText_1, e_X3_readText_4, e_X3_readText_7, e_X3_readText_8, e_X3_readText_11, e_X3_readText_14, e_X3_readText_15, e_X3_readText_18, e_X3_readText_21, e_X3_readText_22, e_X3_readText_25, e_X3_readText_28, e_X3_readText_29, e_X3_readText_32, e_X3_readText_33, o_const, o_iload, o_aload, o_fload, o_dload, o_istore, o_astore, o_fstore, o_dstore, o_iinc, o_bin, o_div, o_un, o_i2l, o_i2f, o_i2d, o_f2d, o_fdiv, o_ddiv, o_lcmp, o_fcmp, o_dcmp, o_if, o_if2, o_goto, o_dup, o_dupx1, o_dup2, o_pop, o_getI, o_getR, o_putI, o_putR, o_iald, o_iast, o_bald, o_bast, o_zald, o_zast, o_aald, o_aast, o_jald, o_jast, o_dald, o_dast, o_alen, o_castA, o_new, o_newa, o_callv, o_callvN, o_calli, o_calls, o_objinit, o_iret, o_zret, o_fret, o_dret, o_aret, o_vret, o_throw, o_acopy, o_bcopy, o_clone, o_tsw, o_ldcS, o_kval, o_kcoder, o_klen, o_kald, o_tald, o_getSq, o_callk, o_callvH, gl, stl, stl2, pre2, va_rf, Value.category, catS, List.length_cons, List.length_nil, List.map_cons, List.map_nil, List.sum_cons, List.sum_nil, List.take_succ_cons, List.take_zero, List.drop_succ_cons, List.drop_zero, List.reverse_cons, List.reverse_nil, List.nil_append, List.cons_append, true_and, and_true, if_true, Nat.reduceAdd, Nat.reduceLT, Nat.reduceLeDiff, y1, y2]
  refine ⟨fun z => absurd z (by decide), fun _ => ⟨⟨p, _, rfl, rfl, y1, y2⟩, sp_readSeed hR2 hA2 ?_ ?_⟩⟩
  · intro S3 c q k' nu' he3 hR3 F3
    simp only [he3] at h0
    simp only [behind, e_X3_readText_0, e_X3_readText_1, e_X3_readText_4, e_X3_readText_7, e_X3_readText_8, e_X3_readText_11, e_X3_readText_14, e_X3_readText_15, e_X3_readText_18, e_X3_readText_21, e_X3_readText_22, e_X3_readText_25, e_X3_readText_28, e_X3_readText_29, e_X3_readText_32, e_X3_readText_33, o_const, o_iload, o_aload, o_fload, o_dload, o_istore, o_astore, o_fstore, o_dstore, o_iinc, o_bin, o_div, o_un, o_i2l, o_i2f, o_i2d, o_f2d, o_fdiv, o_ddiv, o_lcmp, o_fcmp, o_dcmp, o_if, o_if2, o_goto, o_dup, o_dupx1, o_dup2, o_pop, o_getI, o_getR, o_putI, o_putR, o_iald, o_iast, o_bald, o_bast, o_zald, o_zast, o_aald, o_aast, o_jald, o_jast, o_dald, o_dast, o_alen, o_castA, o_new, o_newa, o_callv, o_callvN, o_calli, o_calls, o_objinit, o_iret, o_zret, o_fret, o_dret, o_aret, o_vret, o_throw, o_acopy, o_bcopy, o_clone, o_tsw, o_ldcS, o_kval, o_kcoder, o_klen, o_kald, o_tald, o_getSq, o_callk, o_callvH, gl, stl, stl2, pre2, va_rf, Value.category, catS, List.length_cons, List.length_nil, List.map_cons, List.map_nil, List.sum_cons, List.sum_nil, List.take_succ_cons, List.take_zero, List.drop_succ_cons, List.drop_zero, List.reverse_cons, List.reverse_nil, List.nil_append, List.cons_append, true_and, and_true, if_true, Nat.reduceAdd, Nat.reduceLT, Nat.reduceLeDiff]
    exact ⟨fun _ => ⟨rfl, h0 S3 c q k' nu' rfl hR3 ((F02.trans F3).mono (fun _ _ _ w => w.elim id (fun w => RsA.of w hg02)) (by decide) (by decide))⟩, fun z => absurd trivial z⟩
  intro S3 A3 k3 nu3 he3 hR3 hA3 F3 hg3
  simp only [he3] at h0 h1
  have F03 : Fr S S3 (RsA S p s) 0 0 := (F02.trans F3).mono (fun _ _ _ w => w.elim id (fun w => RsA.of w hg02)) (by decide) (by decide)
  have hRf := hR3
  obtain ⟨t3, z1, z2, -⟩ := hRf
  simp only [behind, e_X3_readText_0, e_X3_readText_1, e_X3_readText_4, e_X3_readText_7, e_X3_readText_8, e_X3_readText_11, e_X3_readText_14, e_X3_readText_15, e_X3_readText_18, e_X3_readText_21, e_X3_readText_22, e_X3_readText_25, e_X3_readText_28, e_X3_readText_29, e_X3_readText_32, e_X3_readText_33, o_const, o_iload, o_aload, o_fload, o_dload, o_istore, o_astore, o_fstore, o_dstore, o_iinc, o_bin, o_div, o_un, o_i2l, o_i2f, o_i2d, o_f2d, o_fdiv, o_ddiv, o_lcmp, o_fcmp, o_dcmp, o_if, o_if2, o_goto, o_dup, o_dupx1, o_dup2, o_pop, o_getI, o_getR, o_putI, o_putR, o_iald, o_iast, o_bald, o_bast, o_zald, o_zast, o_aald, o_aast, o_jald, o_jast, o_dald, o_dast, o_alen, o_castA, o_new, o_newa, o_callv, o_callvN, o_calli, o_calls, o_objinit, o_iret, o_zret, o_fret, o_dret, o_aret, o_vret, o_throw, o_acopy, o_bcopy, o_clone, o_tsw, o_ldcS, o_kval, o_kcoder, o_klen, o_kald, o_tald, o_getSq, o_callk, o_callvH, gl, stl, stl2, pre2, va_rf, Value.category, catS, List.length_cons, List.length_nil, List.map_cons, List.map_nil, List.sum_cons, List.sum_nil, List.take_succ_cons, List.take_zero, List.drop_succ_cons, List.drop_zero, List.reverse_cons, List.reverse_nil, List.nil_append, List.cons_append, true_and, and_true, if_true, Nat.reduceAdd, Nat.reduceLT, Nat.reduceLeDiff, z1, z2]
  refine ⟨fun z => absurd z (by decide), fun _ => ⟨⟨p, _, rfl, rfl, z1, z2⟩, sp_readEnd hR3 ?_ ?_⟩⟩
  · intro S4 c q k' he4 hR4 F4
    simp only [he4] at h0
    simp only [behind, e_X3_readText_0, e_X3_readText_1, e_X3_readText_4, e_X3_readText_7, e_X3_readText_8, e_X3_readText_11, e_X3_readText_14, e_X3_readText_15, e_X3_readText_18, e_X3_readText_21, e_X3_readText_22, e_X3_readText_25, e_X3_readText_28, e_X3_readText_29, e_X3_readText_32, e_X3_readText_33, o_const, o_iload, o_aload, o_fload, o_dload, o_istore, o_astore, o_fstore, o_dstore, o_iinc, o_bin, o_div, o_un, o_i2l, o_i2f, o_i2d, o_f2d, o_fdiv, o_ddiv, o_lcmp, o_fcmp, o_dcmp, o_if, o_if2, o_goto, o_dup, o_dupx1, o_dup2, o_pop, o_getI, o_getR, o_putI, o_putR, o_iald, o_iast, o_bald, o_bast, o_zald, o_zast, o_aald, o_aast, o_jald, o_jast, o_dald, o_dast, o_alen, o_castA, o_new, o_newa, o_callv, o_callvN, o_calli, o_calls, o_objinit, o_iret, o_zret, o_fret, o_dret, o_aret, o_vret, o_throw, o_acopy, o_bcopy, o_clone, o_tsw, o_ldcS, o_kval, o_kcoder, o_klen, o_kald, o_tald, o_getSq, o_callk, o_callvH, gl, stl, stl2, pre2, va_rf, Value.category, catS, List.length_cons, List.length_nil, List.map_cons, List.map_nil, List.sum_cons, List.sum_nil, List.take_succ_cons, List.take_zero, List.drop_succ_cons, List.drop_zero, List.reverse_cons, List.reverse_nil, List.nil_append, List.cons_append, true_and, and_true, if_true, Nat.reduceAdd, Nat.reduceLT, Nat.reduceLeDiff]
    exact ⟨fun _ => ⟨rfl, h0 S4 c q k' nu3 rfl hR4 ((F03.trans F4).mono (fun _ _ _ w => w.elim id RdA.rs) (by decide) (by decide))⟩, fun z => absurd trivial z⟩
  · intro S4 k4 he4 hR4 F4
    simp only [he4] at h1
    obtain ⟨hA4, hg4⟩ := hA3.rd F4
    simp only [behind, e_X3_readText_0, e_X3_readText_1, e_X3_readText_4, e_X3_readText_7, e_X3_readText_8, e_X3_readText_11, e_X3_readText_14, e_X3_readText_15, e_X3_readText_18, e_X3_readText_21, e_X3_readText_22, e_X3_readText_25, e_X3_readText_28, e_X3_readText_29, e_X3_readText_32, e_X3_readText_33, o_const, o_iload, o_aload, o_fload, o_dload, o_istore, o_astore, o_fstore, o_dstore, o_iinc, o_bin, o_div, o_un, o_i2l, o_i2f, o_i2d, o_f2d, o_fdiv, o_ddiv, o_lcmp, o_fcmp, o_dcmp, o_if, o_if2, o_goto, o_dup, o_dupx1, o_dup2, o_pop, o_getI, o_getR, o_putI, o_putR, o_iald, o_iast, o_bald, o_bast, o_zald, o_zast, o_aald, o_aast, o_jald, o_jast, o_dald, o_dast, o_alen, o_castA, o_new, o_newa, o_callv, o_callvN, o_calli, o_calls, o_objinit, o_iret, o_zret, o_fret, o_dret, o_aret, o_vret, o_throw, o_acopy, o_bcopy, o_clone, o_tsw, o_ldcS, o_kval, o_kcoder, o_klen, o_kald, o_tald, o_getSq, o_callk, o_callvH, gl, stl, stl2, pre2, va_rf, Value.category, catS, List.length_cons, List.length_nil, List.map_cons, List.map_nil, List.sum_cons, List.sum_nil, List.take_succ_cons, List.take_zero, List.drop_succ_cons, List.drop_zero, List.reverse_cons, List.reverse_nil, List.nil_append, List.cons_append, true_and, and_true, if_true, Nat.reduceAdd, Nat.reduceLT, Nat.reduceLeDiff]
    exact ⟨fun z => absurd z (by decide), fun _ => ⟨rfl, h1 S4 A3 k4 nu3 rfl hR4 hA4 ((F03.trans F4).mono (fun _ _ _ w => w.elim id RdA.rs) (by decide) (by decide))⟩⟩
end SPS
/-- what is read so far is within its bounds -/
def PV (A : ASet) : Prop := aCm A ≤ 3 ∧ aWm A ≤ 10 ∧ (∀ k, k < aWm A → 1 ≤ aTo A k ∧ aTo A k ≤ 512 ∧ 1 ≤ aAc A k ∧ aAc A k ≤ 512 ∧ aUs A k < aCm A) ∧ (∀ k, k < aCm A → aAm A k ≤ 30 ∧ (-50) ≤ (aOf A k).toInt ∧ (aOf A k).toInt ≤ 50) ∧ aSd A ≤ 65535
theorem pCom_V {T : Nat → Int32} {n k k' : Nat} {A A' : ASet} (hA : PV A) (hw : aWm A = 0) (hc : aCm A < 3) (h : pCom T n A k = .inr (A', k')) : PV A' ∧ aWm A' = 0 := by
  unfold pCom at h
  split at h
  · cases h
  · rename_i v1 k3 e1
    split at h
    · cases h
    · rename_i v2 k4 e2
      split at h
      · cases h
      · cases h
        have h1 := (pNum_hi e1).2
        have h2 := (pNum_hi e2).2
        obtain ⟨a1, a2, a3, a4, a5⟩ := hA
        refine ⟨⟨by show aCm A + 1 ≤ 3; omega, a2, fun k hk => ?_, fun k hk => ?_, a5⟩, hw⟩
        · exact absurd (show k < aWm A from hk) (by omega)
        · show (if k = aCm A then v2 else aAm A k) ≤ 30 ∧ _ ≤ (if k = aCm A then _ else aOf A k : Int32).toInt ∧ (if k = aCm A then _ else aOf A k : Int32).toInt ≤ 50
          by_cases e : k = aCm A
          · simp only [if_pos e]
            have hv : ∀ v, v ≤ 50 → (-50) ≤ (nI v).toInt ∧ (nI v).toInt ≤ 50 ∧ (-50) ≤ (-nI v).toInt ∧ (-nI v).toInt ≤ 50 := by decide +kernel
            obtain ⟨w1, w2, w3, w4⟩ := hv v1 h1
            split
            · exact ⟨h2, w3, w4⟩
            · exact ⟨h2, w1, w2⟩
          · simp only [if_neg e]
            exact a4 k (by have : k < aCm A + 1 := hk; omega)
theorem pCms_V {T : Nat → Int32} {n k' : Nat} {A' : ASet} : ∀ r k A, PV A → aWm A = 0 → aCm A + r = 3 → pCms T n r A k = .inr (A', k') → PV A' ∧ aWm A' = 0 := by
  intro r
  induction r with
  | zero =>
    intro k A hA hw hr h
    simp only [pCms] at h
    split at h
    · cases h
    · cases h; exact ⟨hA, hw⟩
  | succ r ih =>
    intro k A hA hw hr h
    simp only [pCms] at h
    split at h
    · split at h
      · cases h
      · rename_i e
        have := pCom_V hA hw (by omega) e
        exact ih _ _ this.1 this.2 (by rw [pCom_cm e]; omega) h
    · split at h
      · cases h
      · cases h; exact ⟨hA, hw⟩
theorem pWgt_V {T : Nat → Int32} {n k k' : Nat} {A A' : ASet} (hA : PV A) (hw : aWm A < 10) (hc : 1 ≤ aCm A) (h : pWgt T n A k = .inr (A', k')) : PV A' := by
  unfold pWgt at h
  split at h
  · cases h
  · rename_i v1 k2 e1
    split at h
    · cases h
    · rename_i v2 k3 e2
      split at h
      · cases h
      · rename_i v3 k4 e3
        split at h
        · cases h
        · cases h
          have h1 := pNum_hi e1
          have h2 := pNum_hi e2
          have h3 := pNum_hi e3
          obtain ⟨a1, a2, a3, a4, a5⟩ := hA
          refine ⟨a1, by show aWm A + 1 ≤ 10; omega, fun k hk => ?_, a4, a5⟩
          show 1 ≤ (if k = aWm A then v1 else aTo A k) ∧ (if k = aWm A then v1 else aTo A k) ≤ 512 ∧ 1 ≤ (if k = aWm A then v2 else aAc A k) ∧ (if k = aWm A then v2 else aAc A k) ≤ 512 ∧ (if k = aWm A then v3 else aUs A k) < aCm A
          by_cases e : k = aWm A
          · simp only [if_pos e]
            omega
          · simp only [if_neg e]
            exact a3 k (by have : k < aWm A + 1 := hk; omega)
theorem pWgs_V {T : Nat → Int32} {n k' : Nat} {A' : ASet} : ∀ r k A, PV A → 1 ≤ aCm A → aWm A + r = 10 → pWgs T n r A k = .inr (A', k') → PV A' ∧ 1 ≤ aCm A' ∧ 1 ≤ aWm A' := by
  intro r
  induction r with
  | zero =>
    intro k A hA hc hr h
    simp only [pWgs] at h
    split at h
    · cases h
    · cases h; exact ⟨hA, hc, by omega⟩
  | succ r ih =>
    intro k A hA hc hr h
    simp only [pWgs] at h
    split at h
    · split at h
      · cases h
      · rename_i e
        have hcm := pWgt_cm e
        exact ih _ _ (pWgt_V hA (by omega) hc e) (by omega) (by omega) h
    · split at h
      · cases h
      · cases h; exact ⟨hA, hc, by omega⟩
theorem pAll_V {T : Nat → Int32} {n : Nat} {A : ASet} (h : pAll T n = .inr A) : SetV A := by
  unfold pAll at h
  split at h
  · cases h
  · rename_i A1 k1 e1
    split at h
    · cases h
    · rename_i A2 k2 e2
      split at h
      · cases h
      · rename_i A3 k3 e3
        split at h
        · cases h
        · cases h
          have hP0 : PV A0s := ⟨by decide, by decide, fun k hk => absurd hk (Nat.not_lt_zero k), fun k hk => absurd hk (Nat.not_lt_zero k), by decide⟩
          have hc := pCms_cm 3 0 A0s rfl e1
          obtain ⟨p1, w1⟩ := pCms_V 3 0 A0s hP0 rfl rfl e1
          obtain ⟨p2, c2, w2⟩ := pWgs_V 10 k1 A1 p1 hc.1 (by omega) e2
          have p3 : PV A ∧ 1 ≤ aCm A ∧ 1 ≤ aWm A := by
            unfold pSd at e3
            split at e3
            · split at e3
              · cases e3
              · rename_i v k5 e5
                split at e3
                · cases e3
                · cases e3
                  exact ⟨⟨p2.1, p2.2.1, p2.2.2.1, p2.2.2.2.1, (pNum_hi e5).2⟩, c2, w2⟩
            · cases e3; exact ⟨p2, c2, w2⟩
          exact ⟨⟨p3.2.1, p3.1.1⟩, ⟨p3.2.2, p3.1.2.1⟩, p3.1.2.2.1, p3.1.2.2.2.1, p3.1.2.2.2.2⟩
section SPS
variable {ks : Nat → Nat} {d : Nat} {Q : QP} {S : M9} {p tk n : Nat} {T : Nat → Int32}
theorem sp_readerInit {t : Nat} (hp : p ∈ gL S) (hk : gK S p = 5) (hT : ArrR S tk t 400 T) (htk : 60 ≤ tk ∧ tk < 100) (hn : n ≤ 400) (hc : gC S + 6 ≤ cCM) (hz : gZ S + 44 ≤ cSM)
    (h : ∀ S' s, RdR S' p tk T n 0 s 0 0 (-1) → SetR S' s A0s → (∀ t a, SetA S' s t a → ¬ a ∈ gL S) → Fr S S' (RdA p) 6 44 → Q (.inl none) S') : WG ks (d + 2) n_X3_init [.ref p, .ref t, .int (nI n)] S Q := by
  refine ⟨by simp [cat1, Value.category], by show (3 : Nat) ≤ 3; decide, ?_⟩
  show Run ks (WG ks (d + 1)) Q tb_X3_init 0 [some (.ref p), some (.ref t), some (.int (nI n))] [] S
  simp only [e_X3_init_0, e_X3_init_1, e_X3_init_4, e_X3_init_5, e_X3_init_6, e_X3_init_9, e_X3_init_10, e_X3_init_11, e_X3_init_14, e_X3_init_15, e_X3_init_19, e_X3_init_22, e_X3_init_25, e_X3_init_26, e_X3_init_27, e_X3_init_30, e_X3_init_31, e_X3_init_32, e_X3_init_35, e_X3_init_36, e_X3_init_37, e_X3_init_40, e_X3_init_41, e_X3_init_42, e_X3_init_43, e_X3_init_44, e_X3_init_47, e_X3_init_50, o_const, o_iload, o_aload, o_fload, o_dload, o_istore, o_astore, o_fstore, o_dstore, o_iinc, o_bin, o_div, o_un, o_i2l, o_i2f, o_i2d, o_f2d, o_fdiv, o_ddiv, o_lcmp, o_fcmp, o_dcmp, o_if, o_if2, o_goto, o_dup, o_dupx1, o_dup2, o_pop, o_getI, o_getR, o_putI, o_putR, o_iald, o_iast, o_bald, o_bast, o_zald, o_zast, o_aald, o_aast, o_jald, o_jast, o_dald, o_dast, o_alen, o_castA, o_new, o_newa, o_callv, o_callvN, o_calli, o_calls, o_objinit, o_iret, o_zret, o_fret, o_dret, o_aret, o_vret, o_throw, o_acopy, o_bcopy, o_clone, o_tsw, o_ldcS, o_kval, o_kcoder, o_klen, o_kald, o_tald, o_getSq, o_callk, o_callvH, gl, stl, stl2, pre2, va_rf, Value.category, catS, List.length_cons, List.length_nil, List.map_cons, List.map_nil, List.sum_cons, List.sum_nil, List.take_succ_cons, List.take_zero, List.drop_succ_cons, List.drop_zero, List.reverse_cons, List.reverse_nil, List.nil_append, List.cons_append, true_and, and_true, if_true, Nat.reduceAdd, Nat.reduceLT, Nat.reduceLeDiff, hp, hk, gL_sW, gL_sI, gL_sR, gL_sC, gL_nW, gK_sW, gK_sI, gK_sR, gK_sC, gK_nW, gN_sW, gN_sI, gN_sR, gN_sC, gN_nW, gC_sW, gC_sI, gC_sR, gC_sC, gC_nW, gZ_sW, gZ_sI, gZ_sR, gZ_sC, gZ_nW, narI]
  refine ⟨by omega, by omega, fun s hs => ?_⟩
  have hs' : ¬ s ∈ gL (sI (sI S 5 p 2 0) 5 p 3 0) := hs
  have F1 := ((Fr.sI S 5 p 2 0).trans ((Fr.sI (sI S 5 p 2 0) 5 p 3 0).trans (Fr.nW (sI (sI S 5 p 2 0) 5 p 3 0) 7 s 0 8 hs'))).mono (W' := RdA p) (fun _ _ _ w => by
    rcases w with w | w | w
    · exact w
    · exact w
    · exact w.elim) (Nat.le_refl _) (Nat.le_refl _)
  have q1 : s ∈ gL (nW (sI (sI S 5 p 2 0) 5 p 3 0) 7 s 0 8) := List.mem_append_right _ List.mem_cons_self
  have q2 : gK (nW (sI (sI S 5 p 2 0) 5 p 3 0) 7 s 0 8) s = 7 := by rw [gK_nW, if_pos rfl]
  have a2 : gI (nW (sI (sI S 5 p 2 0) 5 p 3 0) 7 s 0 8) 5 p 2 = nI 0 := by rw [gI_nWk, if_neg (fun w => absurd w.1 (by decide)), gI_sIk, if_neg (fun w => absurd w.2.2 (by decide)), gI_sIk, if_pos ⟨rfl, rfl, rfl⟩]; rfl
  have a3 : gI (nW (sI (sI S 5 p 2 0) 5 p 3 0) 7 s 0 8) 5 p 3 = 0 := by rw [gI_nWk, if_neg (fun w => absurd w.1 (by decide)), gI_sIk, if_pos ⟨rfl, rfl, rfl⟩]
  generalize nW (sI (sI S 5 p 2 0) 5 p 3 0) 7 s 0 8 = S1 at F1 q1 q2 a2 a3 ⊢
  obtain ⟨x1, x2, -⟩ := F1.1 p hp
  rw [e_X3_init_18]
  simp only [e_X3_init_0, e_X3_init_1, e_X3_init_4, e_X3_init_5, e_X3_init_6, e_X3_init_9, e_X3_init_10, e_X3_init_11, e_X3_init_14, e_X3_init_15, e_X3_init_18, e_X3_init_19, e_X3_init_22, e_X3_init_25, e_X3_init_26, e_X3_init_27, e_X3_init_30, e_X3_init_31, e_X3_init_32, e_X3_init_35, e_X3_init_36, e_X3_init_37, e_X3_init_40, e_X3_init_41, e_X3_init_42, e_X3_init_43, e_X3_init_44, e_X3_init_47, e_X3_init_50, o_const, o_iload, o_aload, o_fload, o_dload, o_istore, o_astore, o_fstore, o_dstore, o_iinc, o_bin, o_div, o_un, o_i2l, o_i2f, o_i2d, o_f2d, o_fdiv, o_ddiv, o_lcmp, o_fcmp, o_dcmp, o_if, o_if2, o_goto, o_dup, o_dupx1, o_dup2, o_pop, o_getI, o_getR, o_putI, o_putR, o_iald, o_iast, o_bald, o_bast, o_zald, o_zast, o_aald, o_aast, o_jald, o_jast, o_dald, o_dast, o_alen, o_castA, o_new, o_newa, o_callv, o_callvN, o_calli, o_calls, o_objinit, o_iret, o_zret, o_fret, o_dret, o_aret, o_vret, o_throw, o_acopy, o_bcopy, o_clone, o_tsw, o_ldcS, o_kval, o_kcoder, o_klen, o_kald, o_tald, o_getSq, o_callk, o_callvH, gl, stl, stl2, pre2, va_rf, Value.category, catS, List.length_cons, List.length_nil, List.map_cons, List.map_nil, List.sum_cons, List.sum_nil, List.take_succ_cons, List.take_zero, List.drop_succ_cons, List.drop_zero, List.reverse_cons, List.reverse_nil, List.nil_append, List.cons_append, true_and, and_true, if_true, Nat.reduceAdd, Nat.reduceLT, Nat.reduceLeDiff]
  refine ⟨⟨s, _, rfl, rfl⟩, sp_setupInit q1 q2 (by have := F1.2.2.1; omega) (by have := F1.2.2.2; omega) ?_⟩
  intro S2 hA2 F2 hn2
  have F02 := F1.trans F2
  obtain ⟨y1, y2, -⟩ := F02.1 p hp
  have e5 := F2.2.1 5 p x1 (fun w => absurd w.1 (by decide))
  have hT2 : ArrR S2 tk t 400 T := hT.fr F02 (fun w => by rcases w with w | w <;> (have := w.1; omega))
  have hTc := hT2
  obtain ⟨t1, t2, t3, t4⟩ := hTc
  simp only [behN, e_X3_init_0, e_X3_init_1, e_X3_init_4, e_X3_init_5, e_X3_init_6, e_X3_init_9, e_X3_init_10, e_X3_init_11, e_X3_init_14, e_X3_init_15, e_X3_init_18, e_X3_init_19, e_X3_init_22, e_X3_init_25, e_X3_init_26, e_X3_init_27, e_X3_init_30, e_X3_init_31, e_X3_init_32, e_X3_init_35, e_X3_init_36, e_X3_init_37, e_X3_init_40, e_X3_init_41, e_X3_init_42, e_X3_init_43, e_X3_init_44, e_X3_init_47, e_X3_init_50, o_const, o_iload, o_aload, o_fload, o_dload, o_istore, o_astore, o_fstore, o_dstore, o_iinc, o_bin, o_div, o_un, o_i2l, o_i2f, o_i2d, o_f2d, o_fdiv, o_ddiv, o_lcmp, o_fcmp, o_dcmp, o_if, o_if2, o_goto, o_dup, o_dupx1, o_dup2, o_pop, o_getI, o_getR, o_putI, o_putR, o_iald, o_iast, o_bald, o_bast, o_zald, o_zast, o_aald, o_aast, o_jald, o_jast, o_dald, o_dast, o_alen, o_castA, o_new, o_newa, o_callv, o_callvN, o_calli, o_calls, o_objinit, o_iret, o_zret, o_fret, o_dret, o_aret, o_vret, o_throw, o_acopy, o_bcopy, o_clone, o_tsw, o_ldcS, o_kval, o_kcoder, o_klen, o_kald, o_tald, o_getSq, o_callk, o_callvH, gl, stl, stl2, pre2, va_rf, Value.category, catS, List.length_cons, List.length_nil, List.map_cons, List.map_nil, List.sum_cons, List.sum_nil, List.take_succ_cons, List.take_zero, List.drop_succ_cons, List.drop_zero, List.reverse_cons, List.reverse_nil, List.nil_append, List.cons_append, true_and, and_true, if_true, Nat.reduceAdd, Nat.reduceLT, Nat.reduceLeDiff, y1, y2.trans hk, gL_sW, gL_sI, gL_sR, gL_sC, gL_nW, gK_sW, gK_sI, gK_sR, gK_sC, gK_nW, gN_sW, gN_sI, gN_sR, gN_sC, gN_nW, gC_sW, gC_sI, gC_sR, gC_sC, gC_nW, gZ_sW, gZ_sI, gZ_sR, gZ_sC, gZ_nW, narI, t1, t2, t3]
  refine ⟨by omega, sp_min ?_⟩
  rw [if_neg (nI_nlt (a := 400) (b := n) hn (by decide))]
  simp only [behind, e_X3_init_0, e_X3_init_1, e_X3_init_4, e_X3_init_5, e_X3_init_6, e_X3_init_9, e_X3_init_10, e_X3_init_11, e_X3_init_14, e_X3_init_15, e_X3_init_18, e_X3_init_19, e_X3_init_22, e_X3_init_25, e_X3_init_26, e_X3_init_27, e_X3_init_30, e_X3_init_31, e_X3_init_32, e_X3_init_35, e_X3_init_36, e_X3_init_37, e_X3_init_40, e_X3_init_41, e_X3_init_42, e_X3_init_43, e_X3_init_44, e_X3_init_47, e_X3_init_50, o_const, o_iload, o_aload, o_fload, o_dload, o_istore, o_astore, o_fstore, o_dstore, o_iinc, o_bin, o_div, o_un, o_i2l, o_i2f, o_i2d, o_f2d, o_fdiv, o_ddiv, o_lcmp, o_fcmp, o_dcmp, o_if, o_if2, o_goto, o_dup, o_dupx1, o_dup2, o_pop, o_getI, o_getR, o_putI, o_putR, o_iald, o_iast, o_bald, o_bast, o_zald, o_zast, o_aald, o_aast, o_jald, o_jast, o_dald, o_dast, o_alen, o_castA, o_new, o_newa, o_callv, o_callvN, o_calli, o_calls, o_objinit, o_iret, o_zret, o_fret, o_dret, o_aret, o_vret, o_throw, o_acopy, o_bcopy, o_clone, o_tsw, o_ldcS, o_kval, o_kcoder, o_klen, o_kald, o_tald, o_getSq, o_callk, o_callvH, gl, stl, stl2, pre2, va_rf, Value.category, catS, List.length_cons, List.length_nil, List.map_cons, List.map_nil, List.sum_cons, List.sum_nil, List.take_succ_cons, List.take_zero, List.drop_succ_cons, List.drop_zero, List.reverse_cons, List.reverse_nil, List.nil_append, List.cons_append, true_and, and_true, if_true, Nat.reduceAdd, Nat.reduceLT, Nat.reduceLeDiff, y1, y2.trans hk, gL_sW, gL_sI, gL_sR, gL_sC, gL_nW, gK_sW, gK_sI, gK_sR, gK_sC, gK_nW, gN_sW, gN_sI, gN_sR, gN_sC, gN_nW, gC_sW, gC_sI, gC_sR, gC_sC, gC_nW, gZ_sW, gZ_sI, gZ_sR, gZ_sC, gZ_nW, narI]
  have F3 := (Fr.sR S2 5 p 4 (some s)).trans ((Fr.sI (sR S2 5 p 4 (some s)) 5 p 5 0).trans ((Fr.sI (sI (sR S2 5 p 4 (some s)) 5 p 5 0) 5 p 6 (-1)).trans ((Fr.sR (sI (sI (sR S2 5 p 4 (some s)) 5 p 5 0) 5 p 6 (-1)) 5 p 0 (some t)).trans (Fr.sI (sR (sI (sI (sR S2 5 p 4 (some s)) 5 p 5 0) 5 p 6 (-1)) 5 p 0 (some t)) 5 p 1 (nI n)))))
  have F3' : Fr S2 _ (RdA p) 0 0 := F3.mono (fun _ _ _ w => by rcases w with w | w | w | w | w <;> exact w) (by decide) (by decide)
  obtain ⟨hA3, hg3⟩ := hA2.rd F3'
  refine h _ s ⟨t, (F3.1 p y1).1, (F3.1 p y1).2.1.trans (y2.trans hk), ?_, ?_, ?_, ?_, ?_, ?_, ?_, hT2.fr F3' (fun w => by have := w.1; omega), ⟨hn, Nat.zero_le _⟩, htk⟩ hA3 (fun t' a w ha => ?_) ((F02.trans F3').mono (fun t' a ha w => ?_) (by decide) (by decide))
  · rw [gR_sI, gR_sRk, if_pos ⟨rfl, rfl, rfl⟩]
  · rw [gI_sIk, if_pos ⟨rfl, rfl, rfl⟩]
  · rw [gI_sIk, if_neg (fun w => absurd w.2.2 (by decide)), gI_sR, gI_sIk, if_neg (fun w => absurd w.2.2 (by decide)), gI_sIk, if_neg (fun w => absurd w.2.2 (by decide)), gI_sR, e5.1]; exact a2
  · rw [gI_sIk, if_neg (fun w => absurd w.2.2 (by decide)), gI_sR, gI_sIk, if_neg (fun w => absurd w.2.2 (by decide)), gI_sIk, if_neg (fun w => absurd w.2.2 (by decide)), gI_sR, e5.1]; exact a3
  · rw [gR_sI, gR_sRk, if_neg (fun w => absurd w.2.2 (by decide)), gR_sI, gR_sI, gR_sRk, if_pos ⟨rfl, rfl, rfl⟩]
  · rw [gI_sIk, if_neg (fun w => absurd w.2.2 (by decide)), gI_sR, gI_sIk, if_neg (fun w => absurd w.2.2 (by decide)), gI_sIk, if_pos ⟨rfl, rfl, rfl⟩]
  · rw [gI_sIk, if_neg (fun w => absurd w.2.2 (by decide)), gI_sR, gI_sIk, if_pos ⟨rfl, rfl, rfl⟩]
  · have w2 : SetA S2 s t' a := by
      unfold SetA at w ⊢
      rw [hg3] at w
      exact w
    have := hn2 t' a w2 (F1.1 a ha).1
    exact hs (this.2 ▸ ha)
  · rcases w with (w | w) | w
    · exact w
    · exact absurd (w.2 ▸ ha) hs
    · exact w
end SPS
