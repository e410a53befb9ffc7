/-! THE CONVERTER: load -/
section SPS
variable {ks : Nat → Nat} {d : Nat} {Q : QP} {S : M9} {x M u v tl hn wn fr : Nat} {T Wt : Nat → Int32} {eA : Int32} {H : Nat → CSt} {C : CSt} {s0 s1 : CSl}
theorem cr_len (h : CR S x M u v tl T eA hn H C wn Wt s0 s1 fr) : CR (sI S 10 x 1 0) x M u v 0 T eA hn H C wn Wt s0 s1 fr := by
  obtain ⟨tx, ⟨x1, x2⟩, g0, g1, g2, hA, hT, hcont⟩ := cr_tx h
  have F := Fr.sI S 10 x 1 0
  exact hcont _ 0 T eA (by rw [gR_sI]) (by rw [gI_sIk, if_pos ⟨rfl, rfl, rfl⟩]; rfl) (by rw [gI_sIk, if_neg (fun w => absurd w.2.2 (by decide))]; exact g2) (by rw [gI_sIk, if_neg (fun w => absurd w.2.2 (by decide))]) (hA.fr F (fun w => absurd w.1 (by decide))) ⟨Nat.zero_le _, fun k hk => absurd hk (Nat.not_lt_zero k)⟩ (F.mono (fun t a _ w => Or.inl w) (Nat.le_refl _) (Nat.le_refl _))
theorem cr_eA {e : Int32} (h : CR S x M u v tl T eA hn H C wn Wt s0 s1 fr) : CR (sI S 10 x 2 e) x M u v tl T e hn H C wn Wt s0 s1 fr := by
  obtain ⟨tx, ⟨x1, x2⟩, g0, g1, g2, hA, hT, hcont⟩ := cr_tx h
  have F := Fr.sI S 10 x 2 e
  exact hcont _ tl T e (by rw [gR_sI]) (by rw [gI_sIk, if_neg (fun w => absurd w.2.2 (by decide))]; exact g1) (by rw [gI_sIk, if_pos ⟨rfl, rfl, rfl⟩]) (by rw [gI_sIk, if_neg (fun w => absurd w.2.2 (by decide))]) (hA.fr F (fun w => absurd w.1 (by decide))) hT (F.mono (fun t a _ w => Or.inl w) (Nat.le_refl _) (Nat.le_refl _))
theorem sp_load (hm : u + 80 ≤ cCM ∧ v + 910000 ≤ cSM) (hM : M ≤ 9900) (hR : CR S x M u v tl T eA hn H C wn Wt s0 s1 fr) {len : Int32}
    (hE : ∀ S' c q, ¬ len < 0 ∧ len ≤ nI tl → pAll T len.toNatClampNeg = .inl (c, q) → CR S' x M (u + 9) (v + 51) 0 T (nI q) hn H C wn Wt s0 s1 fr → Fr S S' (fun t _ => ¬ nX t) 9 80051 → Q (.inl (some (.int c))) S')
    (hS : ∀ S' A, ¬ len < 0 ∧ len ≤ nI tl → pAll T len.toNatClampNeg = .inr A → CR S' x M (u + 9) (v + 51) 0 T (-1) (min (hn + 1) 8) (pushH C H) (bgn C A) wn Wt s0 s1 0 → Fr S S' (fun t _ => ¬ nX t) 9 80051 → Q (.inl (some (.int (nI (aWm A))))) S')
    (h0 : ¬ (¬ len < 0 ∧ len ≤ nI tl) → Q (.inr IAE) (sC S 1 6)) : WG ks (d + 9) n_X8_load [.ref x, .int len] S Q := by
  refine ⟨by simp [cat1, Value.category], by show (2 : Nat) ≤ 4; decide, ?_⟩
  show Run ks (WG ks (d + 8)) Q tb_X8_load 0 [some (.ref x), some (.int len), none, none] [] S
  obtain ⟨m1, m2⟩ := cr_rm (by omega) hR
  obtain ⟨tx, ⟨x1, x2⟩, g0, g1, g2, hA, hT, -⟩ := cr_tx hR
  have hT0 := hT.1
  simp only [e_X8_load_0, e_X8_load_1, e_X8_load_2, e_X8_load_3, e_X8_load_6, e_X8_load_9, e_X8_load_13, e_X8_load_14, e_X8_load_17, e_X8_load_18, e_X8_load_21, e_X8_load_22, e_X8_load_23, e_X8_load_26, e_X8_load_27, e_X8_load_28, e_X8_load_29, e_X8_load_32, e_X8_load_33, e_X8_load_36, e_X8_load_37, e_X8_load_38, e_X8_load_41, e_X8_load_44, e_X8_load_45, e_X8_load_48, e_X8_load_49, e_X8_load_50, e_X8_load_51, e_X8_load_54, e_X8_load_55, e_X8_load_58, e_X8_load_59, e_X8_load_62, e_X8_load_63, e_X8_load_66, e_X8_load_69, e_X8_load_70, e_X8_load_73, e_X8_load_76, e_X8_load_79, o_const, o_iload, o_aload, o_fload, o_dload, o_istore, o_astore, o_fstore, o_dstore, o_iinc, o_bin, o_div, o_un, o_i2l, o_i2f, o_i2d, o_f2d, o_fdiv, o_ddiv, o_lcmp, o_fcmp, o_dcmp, o_if, o_if2, o_goto, o_dup, o_dupx1, o_dup2, o_pop, o_getI, o_getR, o_putI, o_putR, o_iald, o_iast, o_bald, o_bast, o_zald, o_zast, o_aald, o_aast, o_jald, o_jast, o_dald, o_dast, o_alen, o_castA, o_new, o_newa, o_callv, o_callvN, o_calli, o_calls, o_objinit, o_iret, o_zret, o_fret, o_dret, o_aret, o_vret, o_throw, o_acopy, o_bcopy, o_clone, o_tsw, o_ldcS, o_kval, o_kcoder, o_klen, o_kald, o_tald, o_getSq, o_callk, o_callvH, gl, stl, stl2, pre2, va_rf, Value.category, catS, List.length_cons, List.length_nil, List.map_cons, List.map_nil, List.sum_cons, List.sum_nil, List.take_succ_cons, List.take_zero, List.drop_succ_cons, List.drop_zero, List.reverse_cons, List.reverse_nil, List.nil_append, List.cons_append, true_and, and_true, if_true, Nat.reduceAdd, Nat.reduceLT, Nat.reduceLeDiff, x1, x2, g1]
  refine sp_reqArg ⟨m1, m2⟩ (fun ha => ?_) (fun ha => ?_)
  · obtain ⟨k, k1, rfl, k3⟩ := rArg_k (hi := tl) (by omega) ha
    rw [k3] at hE hS
    simp only [behind, e_X8_load_0, e_X8_load_1, e_X8_load_2, e_X8_load_3, e_X8_load_6, e_X8_load_9, e_X8_load_13, e_X8_load_14, e_X8_load_17, e_X8_load_18, e_X8_load_21, e_X8_load_22, e_X8_load_23, e_X8_load_26, e_X8_load_27, e_X8_load_28, e_X8_load_29, e_X8_load_32, e_X8_load_33, e_X8_load_36, e_X8_load_37, e_X8_load_38, e_X8_load_41, e_X8_load_44, e_X8_load_45, e_X8_load_48, e_X8_load_49, e_X8_load_50, e_X8_load_51, e_X8_load_54, e_X8_load_55, e_X8_load_58, e_X8_load_59, e_X8_load_62, e_X8_load_63, e_X8_load_66, e_X8_load_69, e_X8_load_70, e_X8_load_73, e_X8_load_76, e_X8_load_79, o_const, o_iload, o_aload, o_fload, o_dload, o_istore, o_astore, o_fstore, o_dstore, o_iinc, o_bin, o_div, o_un, o_i2l, o_i2f, o_i2d, o_f2d, o_fdiv, o_ddiv, o_lcmp, o_fcmp, o_dcmp, o_if, o_if2, o_goto, o_dup, o_dupx1, o_dup2, o_pop, o_getI, o_getR, o_putI, o_putR, o_iald, o_iast, o_bald, o_bast, o_zald, o_zast, o_aald, o_aast, o_jald, o_jast, o_dald, o_dast, o_alen, o_castA, o_new, o_newa, o_callv, o_callvN, o_calli, o_calls, o_objinit, o_iret, o_zret, o_fret, o_dret, o_aret, o_vret, o_throw, o_acopy, o_bcopy, o_clone, o_tsw, o_ldcS, o_kval, o_kcoder, o_klen, o_kald, o_tald, o_getSq, o_callk, o_callvH, gl, stl, stl2, pre2, va_rf, Value.category, catS, List.length_cons, List.length_nil, List.map_cons, List.map_nil, List.sum_cons, List.sum_nil, List.take_succ_cons, List.take_zero, List.drop_succ_cons, List.drop_zero, List.reverse_cons, List.reverse_nil, List.nil_append, List.cons_append, true_and, and_true, if_true, Nat.reduceAdd, Nat.reduceLT, Nat.reduceLeDiff]
    refine ⟨by omega, by omega, fun p hp => ?_⟩
    have F1 := Fr.nW S 5 p 0 7 hp
    have p1 : p ∈ gL (nW S 5 p 0 7) := List.mem_append_right _ List.mem_cons_self
    have p2 : gK (nW S 5 p 0 7) p = 5 := by rw [gK_nW, if_pos rfl]
    have hA1 := hA.fr F1 (fun w => w)
    have xx := F1.1 x x1
    have e1 := (F1.2.1 10 x x1 (fun w => w))
    generalize nW S 5 p 0 7 = S1 at F1 p1 p2 hA1 xx e1 ⊢
    rw [e_X8_load_12]
    simp only [e_X8_load_0, e_X8_load_1, e_X8_load_2, e_X8_load_3, e_X8_load_6, e_X8_load_9, e_X8_load_13, e_X8_load_14, e_X8_load_17, e_X8_load_18, e_X8_load_21, e_X8_load_22, e_X8_load_23, e_X8_load_26, e_X8_load_27, e_X8_load_28, e_X8_load_29, e_X8_load_32, e_X8_load_33, e_X8_load_36, e_X8_load_37, e_X8_load_38, e_X8_load_41, e_X8_load_44, e_X8_load_45, e_X8_load_48, e_X8_load_49, e_X8_load_50, e_X8_load_51, e_X8_load_54, e_X8_load_55, e_X8_load_58, e_X8_load_59, e_X8_load_62, e_X8_load_63, e_X8_load_66, e_X8_load_69, e_X8_load_70, e_X8_load_73, e_X8_load_76, e_X8_load_79, o_const, o_iload, o_aload, o_fload, o_dload, o_istore, o_astore, o_fstore, o_dstore, o_iinc, o_bin, o_div, o_un, o_i2l, o_i2f, o_i2d, o_f2d, o_fdiv, o_ddiv, o_lcmp, o_fcmp, o_dcmp, o_if, o_if2, o_goto, o_dup, o_dupx1, o_dup2, o_pop, o_getI, o_getR, o_putI, o_putR, o_iald, o_iast, o_bald, o_bast, o_zald, o_zast, o_aald, o_aast, o_jald, o_jast, o_dald, o_dast, o_alen, o_castA, o_new, o_newa, o_callv, o_callvN, o_calli, o_calls, o_objinit, o_iret, o_zret, o_fret, o_dret, o_aret, o_vret, o_throw, o_acopy, o_bcopy, o_clone, o_tsw, o_ldcS, o_kval, o_kcoder, o_klen, o_kald, o_tald, o_getSq, o_callk, o_callvH, gl, stl, stl2, pre2, va_rf, Value.category, catS, List.length_cons, List.length_nil, List.map_cons, List.map_nil, List.sum_cons, List.sum_nil, List.take_succ_cons, List.take_zero, List.drop_succ_cons, List.drop_zero, List.reverse_cons, List.reverse_nil, List.nil_append, List.cons_append, true_and, and_true, if_true, Nat.reduceAdd, Nat.reduceLT, Nat.reduceLeDiff, xx.1, xx.2.1.trans x2, e1.1, e1.2.1, g0]
    refine ⟨⟨p, _, rfl, rfl⟩, sp_readerInit (n := k) (T := T) p1 p2 hA1 (by decide) (by omega) (by have := F1.2.2.1; omega) (by have := F1.2.2.2; omega) ?_⟩
    intro S2 s hRd hSt hnew F2
    have hrd := hRd
    obtain ⟨t2, r1, r2, -⟩ := hrd
    simp only [behN, e_X8_load_0, e_X8_load_1, e_X8_load_2, e_X8_load_3, e_X8_load_6, e_X8_load_9, e_X8_load_13, e_X8_load_14, e_X8_load_17, e_X8_load_18, e_X8_load_21, e_X8_load_22, e_X8_load_23, e_X8_load_26, e_X8_load_27, e_X8_load_28, e_X8_load_29, e_X8_load_32, e_X8_load_33, e_X8_load_36, e_X8_load_37, e_X8_load_38, e_X8_load_41, e_X8_load_44, e_X8_load_45, e_X8_load_48, e_X8_load_49, e_X8_load_50, e_X8_load_51, e_X8_load_54, e_X8_load_55, e_X8_load_58, e_X8_load_59, e_X8_load_62, e_X8_load_63, e_X8_load_66, e_X8_load_69, e_X8_load_70, e_X8_load_73, e_X8_load_76, e_X8_load_79, o_const, o_iload, o_aload, o_fload, o_dload, o_istore, o_astore, o_fstore, o_dstore, o_iinc, o_bin, o_div, o_un, o_i2l, o_i2f, o_i2d, o_f2d, o_fdiv, o_ddiv, o_lcmp, o_fcmp, o_dcmp, o_if, o_if2, o_goto, o_dup, o_dupx1, o_dup2, o_pop, o_getI, o_getR, o_putI, o_putR, o_iald, o_iast, o_bald, o_bast, o_zald, o_zast, o_aald, o_aast, o_jald, o_jast, o_dald, o_dast, o_alen, o_castA, o_new, o_newa, o_callv, o_callvN, o_calli, o_calls, o_objinit, o_iret, o_zret, o_fret, o_dret, o_aret, o_vret, o_throw, o_acopy, o_bcopy, o_clone, o_tsw, o_ldcS, o_kval, o_kcoder, o_klen, o_kald, o_tald, o_getSq, o_callk, o_callvH, gl, stl, stl2, pre2, va_rf, Value.category, catS, List.length_cons, List.length_nil, List.map_cons, List.map_nil, List.sum_cons, List.sum_nil, List.take_succ_cons, List.take_zero, List.drop_succ_cons, List.drop_zero, List.reverse_cons, List.reverse_nil, List.nil_append, List.cons_append, true_and, and_true, if_true, Nat.reduceAdd, Nat.reduceLT, Nat.reduceLeDiff, r1, r2]
    have hold : ∀ t a, a ∈ gL S → ¬ RsA S2 p s t a := fun t a ha w => by
      rcases w with w | w
      · exact hp (w.2 ▸ ha)
      · exact hnew t a w (F1.1 a ha).1
    have F02 := F1.trans F2
    refine ⟨⟨p, _, rfl, rfl, r1, r2⟩, sp_readText hRd hSt ?_ ?_⟩
    · intro S3 c q k' nu' he hRd3 F3
      have F03 : Fr S S3 (fun _ _ => False) 7 51 := (F02.trans F3).mono (fun t a ha w => by
        rcases w with (w | w) | w
        · exact w
        · exact hp (w.2 ▸ ha)
        · exact hold t a ha w) (by decide) (by decide)
      have hR3 := cr_fr hR F03 (fun _ _ w => w.elim)
      obtain ⟨tx3, ⟨z1, z2⟩, -⟩ := cr_tx hR3
      have hR4 := cr_len hR3
      have hRd4 := hRd3.fr (Fr.sI S3 10 x 1 0) (fun w => absurd w.1 (by decide)) (fun a w => absurd w.1 (by decide))
      have hrd4 := hRd4
      obtain ⟨t4, w1, w2, w3, w4, w5, w6, w7, w8, w9, -⟩ := hrd4
      obtain ⟨_, ⟨y1, y2⟩, -⟩ := cr_tx hR4
      have w1' : p ∈ gL S3 := w1
      have w2' : gK S3 p = 5 := w2
      have hR5 := cr_eA (e := nI q) hR4
      simp only [behind, e_X8_load_0, e_X8_load_1, e_X8_load_2, e_X8_load_3, e_X8_load_6, e_X8_load_9, e_X8_load_13, e_X8_load_14, e_X8_load_17, e_X8_load_18, e_X8_load_21, e_X8_load_22, e_X8_load_23, e_X8_load_26, e_X8_load_27, e_X8_load_28, e_X8_load_29, e_X8_load_32, e_X8_load_33, e_X8_load_36, e_X8_load_37, e_X8_load_38, e_X8_load_41, e_X8_load_44, e_X8_load_45, e_X8_load_48, e_X8_load_49, e_X8_load_50, e_X8_load_51, e_X8_load_54, e_X8_load_55, e_X8_load_58, e_X8_load_59, e_X8_load_62, e_X8_load_63, e_X8_load_66, e_X8_load_69, e_X8_load_70, e_X8_load_73, e_X8_load_76, e_X8_load_79, o_const, o_iload, o_aload, o_fload, o_dload, o_istore, o_astore, o_fstore, o_dstore, o_iinc, o_bin, o_div, o_un, o_i2l, o_i2f, o_i2d, o_f2d, o_fdiv, o_ddiv, o_lcmp, o_fcmp, o_dcmp, o_if, o_if2, o_goto, o_dup, o_dupx1, o_dup2, o_pop, o_getI, o_getR, o_putI, o_putR, o_iald, o_iast, o_bald, o_bast, o_zald, o_zast, o_aald, o_aast, o_jald, o_jast, o_dald, o_dast, o_alen, o_castA, o_new, o_newa, o_callv, o_callvN, o_calli, o_calls, o_objinit, o_iret, o_zret, o_fret, o_dret, o_aret, o_vret, o_throw, o_acopy, o_bcopy, o_clone, o_tsw, o_ldcS, o_kval, o_kcoder, o_klen, o_kald, o_tald, o_getSq, o_callk, o_callvH, gl, stl, stl2, pre2, va_rf, Value.category, catS, List.length_cons, List.length_nil, List.map_cons, List.map_nil, List.sum_cons, List.sum_nil, List.take_succ_cons, List.take_zero, List.drop_succ_cons, List.drop_zero, List.reverse_cons, List.reverse_nil, List.nil_append, List.cons_append, true_and, and_true, if_true, Nat.reduceAdd, Nat.reduceLT, Nat.reduceLeDiff, z1, z2, gL_sW, gL_sI, gL_sR, gL_sC, gL_nW, gK_sW, gK_sI, gK_sR, gK_sC, gK_nW, gN_sW, gN_sI, gN_sR, gN_sC, gN_nW, gC_sW, gC_sI, gC_sR, gC_sC, gC_nW, gZ_sW, gZ_sI, gZ_sR, gZ_sC, gZ_nW, narI, w1', w2', w8, w9]
      refine ⟨fun z => absurd trivial z, fun _ => ?_⟩
      have e8 : gI (sI (sI S3 10 x 1 0) 10 x 2 (nI q)) 5 p 5 = c := by rw [gI_sIk, if_neg (fun w => absurd w.1 (by decide))]; exact w8
      rw [e8]
      exact hE _ c q ha he (cr_mono hR5 (Nat.le_refl _) (by omega) (Nat.le_refl _)) ((F03.trans ((Fr.sI S3 10 x 1 0).trans (Fr.sI (sI S3 10 x 1 0) 10 x 2 (nI q)))).mono (fun t a _ w => by
        rcases w with w | w | w
        · exact w.elim
        all_goals (have := w.1; unfold nX; omega)) (by decide) (by decide))
    · intro S3 A k' nu' he hRd3 hSt3 F3
      have F03 : Fr S S3 (fun _ _ => False) 7 51 := (F02.trans F3).mono (fun t a ha w => by
        rcases w with (w | w) | w
        · exact w
        · exact hp (w.2 ▸ ha)
        · exact hold t a ha w) (by decide) (by decide)
      have hR3 := cr_fr hR F03 (fun _ _ w => w.elim)
      obtain ⟨tx3, ⟨z1, z2⟩, -⟩ := cr_tx hR3
      have hR4 := cr_eA (e := (-1)) (cr_len hR3)
      have F34 := (Fr.sI S3 10 x 1 0).trans (Fr.sI (sI S3 10 x 1 0) 10 x 2 (-1))
      have hRd4 := hRd3.fr F34 (fun w => by omega) (fun a w => by omega)
      have hSt4 := hSt3.fr F34 (fun w => by omega) (fun t a h1 h2 w => by omega)
      obtain ⟨_, ⟨y1, y2⟩, -⟩ := cr_tx hR4
      simp only [behind, e_X8_load_0, e_X8_load_1, e_X8_load_2, e_X8_load_3, e_X8_load_6, e_X8_load_9, e_X8_load_13, e_X8_load_14, e_X8_load_17, e_X8_load_18, e_X8_load_21, e_X8_load_22, e_X8_load_23, e_X8_load_26, e_X8_load_27, e_X8_load_28, e_X8_load_29, e_X8_load_32, e_X8_load_33, e_X8_load_36, e_X8_load_37, e_X8_load_38, e_X8_load_41, e_X8_load_44, e_X8_load_45, e_X8_load_48, e_X8_load_49, e_X8_load_50, e_X8_load_51, e_X8_load_54, e_X8_load_55, e_X8_load_58, e_X8_load_59, e_X8_load_62, e_X8_load_63, e_X8_load_66, e_X8_load_69, e_X8_load_70, e_X8_load_73, e_X8_load_76, e_X8_load_79, o_const, o_iload, o_aload, o_fload, o_dload, o_istore, o_astore, o_fstore, o_dstore, o_iinc, o_bin, o_div, o_un, o_i2l, o_i2f, o_i2d, o_f2d, o_fdiv, o_ddiv, o_lcmp, o_fcmp, o_dcmp, o_if, o_if2, o_goto, o_dup, o_dupx1, o_dup2, o_pop, o_getI, o_getR, o_putI, o_putR, o_iald, o_iast, o_bald, o_bast, o_zald, o_zast, o_aald, o_aast, o_jald, o_jast, o_dald, o_dast, o_alen, o_castA, o_new, o_newa, o_callv, o_callvN, o_calli, o_calls, o_objinit, o_iret, o_zret, o_fret, o_dret, o_aret, o_vret, o_throw, o_acopy, o_bcopy, o_clone, o_tsw, o_ldcS, o_kval, o_kcoder, o_klen, o_kald, o_tald, o_getSq, o_callk, o_callvH, gl, stl, stl2, pre2, va_rf, Value.category, catS, List.length_cons, List.length_nil, List.map_cons, List.map_nil, List.sum_cons, List.sum_nil, List.take_succ_cons, List.take_zero, List.drop_succ_cons, List.drop_zero, List.reverse_cons, List.reverse_nil, List.nil_append, List.cons_append, true_and, and_true, if_true, Nat.reduceAdd, Nat.reduceLT, Nat.reduceLeDiff, z1, z2, gL_sW, gL_sI, gL_sR, gL_sC, gL_nW, gK_sW, gK_sI, gK_sR, gK_sC, gK_nW, gN_sW, gN_sI, gN_sR, gN_sC, gN_nW, gC_sW, gC_sI, gC_sR, gC_sC, gC_nW, gZ_sW, gZ_sI, gZ_sR, gZ_sC, gZ_nW, narI]
      refine ⟨fun _ => ⟨⟨x, _, rfl, rfl, z1, z2⟩, sp_beginChange2 (by omega) (by omega) hR4 ?_⟩, fun z => absurd (by decide) z⟩
      intro S5 hR5 F5 hg5 F5'
      have hRd5 := hRd4.fr F5' (fun w => by unfold NineA at w; omega) (fun a w => by unfold NineA at w; omega)
      have hSt5 := hSt4.fr F5' (fun w => by unfold NineA at w; omega) (fun t a h1 h2 w => by unfold NineA at w; omega)
      obtain ⟨st, L, hQ, j1, j2, j3, hcont⟩ := cr_st (c := 0) hR5
      obtain ⟨q1, q2, q3, hState, hV⟩ := hQ
      have hsc := hState
      obtain ⟨_, _, _, _, _, y3, y4, -⟩ := hsc
      have hrd5 := hRd5
      obtain ⟨t5, w1, w2, w3, w4, w5, w6, w7, -⟩ := hrd5
      simp only [behind, e_X8_load_0, e_X8_load_1, e_X8_load_2, e_X8_load_3, e_X8_load_6, e_X8_load_9, e_X8_load_13, e_X8_load_14, e_X8_load_17, e_X8_load_18, e_X8_load_21, e_X8_load_22, e_X8_load_23, e_X8_load_26, e_X8_load_27, e_X8_load_28, e_X8_load_29, e_X8_load_32, e_X8_load_33, e_X8_load_36, e_X8_load_37, e_X8_load_38, e_X8_load_41, e_X8_load_44, e_X8_load_45, e_X8_load_48, e_X8_load_49, e_X8_load_50, e_X8_load_51, e_X8_load_54, e_X8_load_55, e_X8_load_58, e_X8_load_59, e_X8_load_62, e_X8_load_63, e_X8_load_66, e_X8_load_69, e_X8_load_70, e_X8_load_73, e_X8_load_76, e_X8_load_79, o_const, o_iload, o_aload, o_fload, o_dload, o_istore, o_astore, o_fstore, o_dstore, o_iinc, o_bin, o_div, o_un, o_i2l, o_i2f, o_i2d, o_f2d, o_fdiv, o_ddiv, o_lcmp, o_fcmp, o_dcmp, o_if, o_if2, o_goto, o_dup, o_dupx1, o_dup2, o_pop, o_getI, o_getR, o_putI, o_putR, o_iald, o_iast, o_bald, o_bast, o_zald, o_zast, o_aald, o_aast, o_jald, o_jast, o_dald, o_dast, o_alen, o_castA, o_new, o_newa, o_callv, o_callvN, o_calli, o_calls, o_objinit, o_iret, o_zret, o_fret, o_dret, o_aret, o_vret, o_throw, o_acopy, o_bcopy, o_clone, o_tsw, o_ldcS, o_kval, o_kcoder, o_klen, o_kald, o_tald, o_getSq, o_callk, o_callvH, gl, stl, stl2, pre2, va_rf, Value.category, catS, List.length_cons, List.length_nil, List.map_cons, List.map_nil, List.sum_cons, List.sum_nil, List.take_succ_cons, List.take_zero, List.drop_succ_cons, List.drop_zero, List.reverse_cons, List.reverse_nil, List.nil_append, List.cons_append, true_and, and_true, if_true, Nat.reduceAdd, Nat.reduceLT, Nat.reduceLeDiff, q1, q2, q3, w1, w2, w7]
      refine ⟨⟨st, _, rfl, rfl, y3, y4⟩, sp_begin hState.w hSt5 (pAll_V he) ?_⟩
      intro S6 hR6 F6 e3 e4
      have hSV := pAll_V he
      have hfin := hcont S6 L (bgn C A) M hR6 ⟨hSV.2.2.2.2, fun k hk => by
        have := (hSV.2.2.1 k hk).2.1
        show aTo A k ≤ 1023
        omega, Nat.zero_le _, fun k hk => absurd hk (Nat.not_lt_zero k), hV.2.2.2.2⟩ (Nat.le_refl _) (F6.mono (fun _ _ _ w => w) (Nat.le_refl _) (Nat.zero_le _)) (Nat.le_refl _) e3 e4 (Or.inl rfl)
      obtain ⟨st6, L6, hQ6⟩ := cr_q hfin
      obtain ⟨i1, i2, i3, hS6, -⟩ := hQ6
      obtain ⟨su, _, _, _, _, i4, i5, i6, _, _, _, _, _, hSet6, -⟩ := hS6
      obtain ⟨_, _, _, _, _, i7, i8, i9, i10, -⟩ := hSet6
      simp only [behind, e_X8_load_0, e_X8_load_1, e_X8_load_2, e_X8_load_3, e_X8_load_6, e_X8_load_9, e_X8_load_13, e_X8_load_14, e_X8_load_17, e_X8_load_18, e_X8_load_21, e_X8_load_22, e_X8_load_23, e_X8_load_26, e_X8_load_27, e_X8_load_28, e_X8_load_29, e_X8_load_32, e_X8_load_33, e_X8_load_36, e_X8_load_37, e_X8_load_38, e_X8_load_41, e_X8_load_44, e_X8_load_45, e_X8_load_48, e_X8_load_49, e_X8_load_50, e_X8_load_51, e_X8_load_54, e_X8_load_55, e_X8_load_58, e_X8_load_59, e_X8_load_62, e_X8_load_63, e_X8_load_66, e_X8_load_69, e_X8_load_70, e_X8_load_73, e_X8_load_76, e_X8_load_79, o_const, o_iload, o_aload, o_fload, o_dload, o_istore, o_astore, o_fstore, o_dstore, o_iinc, o_bin, o_div, o_un, o_i2l, o_i2f, o_i2d, o_f2d, o_fdiv, o_ddiv, o_lcmp, o_fcmp, o_dcmp, o_if, o_if2, o_goto, o_dup, o_dupx1, o_dup2, o_pop, o_getI, o_getR, o_putI, o_putR, o_iald, o_iast, o_bald, o_bast, o_zald, o_zast, o_aald, o_aast, o_jald, o_jast, o_dald, o_dast, o_alen, o_castA, o_new, o_newa, o_callv, o_callvN, o_calli, o_calls, o_objinit, o_iret, o_zret, o_fret, o_dret, o_aret, o_vret, o_throw, o_acopy, o_bcopy, o_clone, o_tsw, o_ldcS, o_kval, o_kcoder, o_klen, o_kald, o_tald, o_getSq, o_callk, o_callvH, gl, stl, stl2, pre2, va_rf, Value.category, catS, List.length_cons, List.length_nil, List.map_cons, List.map_nil, List.sum_cons, List.sum_nil, List.take_succ_cons, List.take_zero, List.drop_succ_cons, List.drop_zero, List.reverse_cons, List.reverse_nil, List.nil_append, List.cons_append, true_and, and_true, if_true, Nat.reduceAdd, Nat.reduceLT, Nat.reduceLeDiff, i1, i2, i3, i4, i5, i6, i7, i8, i10]
      exact hS S6 A ha he (cr_mono hfin (Nat.le_refl _) (by omega) (Nat.le_refl _)) ((F03.trans (F34.trans (F5.trans F6))).mono (fun t a _ w => by
        rcases w with w | (w | w) | w | w
        · exact w.elim
        · have := w.1; unfold nX; omega
        · have := w.1; unfold nX; omega
        · exact w
        · exact stA_n w) (by decide) (by decide))
  · simp only [behind]
    exact h0 ha
end SPS
