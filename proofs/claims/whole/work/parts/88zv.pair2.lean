/-! THE LAW: the class's call and the model's, together, the rest -/
theorem inI_01 : inI (0 : Int32) 2 ∧ inI (1 : Int32) 2 := by decide
/-- the mean: a float, told as a double -/
def MdA (ks : Nat → Nat) (nm : Nat) (as : List Value) (S1 : M9) (x m ol od : Nat) (ad : Nat → Nat) (n k : Nat) : Prop := ∀ (d : Nat) (Q2 : QP), (∀ S2 w, LI S2 x m ol od ad n → gI S2 11 m 6 = nI k → (k = 0 → gD S2 od 0 = FP.f2d w ∧ Jvm.FP.Core.val32 w ≠ .nan) → Q2 (.inl (some (.float w))) S2) → WG ks (d + 20) nm as S1 Q2
theorem o_sD {S : M9} {ol od k : Nat} {w : UInt64} (h : OutR S ol od) : OutR (sD S od k w) ol od := h.fr (Fr.sD S od k w)
theorem nan_f2d {r : UInt32} (h : Jvm.FP.Core.val32 r ≠ .nan) : vf_n64 (FP.f2d r) := by
  refine nn64 ?_
  have e0 : FP.f2d r = Jvm.FP.Core.f2d r := if_neg (fun z => h (of_decide_eq_true z))
  rw [e0, Jvm.FP.Core.val64_f2d]
  cases e : Jvm.FP.Core.val32 r with
  | nan => exact absurd e h
  | inf s => intro z; cases z
  | fin s a q => exact nn_rr _ _ _ _ _
theorem nan_avg' {i n : Int32} {t : Int32} (h : rAvg i n = 0) : Jvm.FP.Core.val32 (FP.fdiv (FP.i2f t) (FP.i2f n)) ≠ .nan := by
  have h2 : ¬ n < 1 ∧ n ≤ 16 := by
    by_cases c : (¬ i < 0 ∧ i ≤ 9999) ∧ (¬ n < 1 ∧ n ≤ 16)
    · exact c.2
    · unfold rAvg at h; rw [if_neg c] at h; cases h
  obtain ⟨j, j0, j1, rfl, -⟩ := rArg_k1 (hi := 16) (by decide) h2
  exact nan_avg t (by omega) j1
section PRS2
variable {ks : Nat → Nat} {d n : Nat} {Q : QP} {S : M9} {x m ol od : Nat} {ad : Nat → Nat}
theorem pr_missingAt (hks : ¬ ks 11 = ks 10) (hL : LI S x m ol od ad n) (hn : n < 512) {a : Int32} (h : ∀ S1 (k : Nat), k ≤ 3 → MdC ks n_X9_missingAt [.ref m, .int a] S1 x m ol od ad (n + 1) k → MdF S1 m ol od → Q (.inl (some (.int (nI k)))) S1) : WG ks (d + 30) n_L_missingAt [.ref x, .int a, .ref ol] S Q := by
  obtain ⟨M, u, v, tl, T, eA, hn', H, C, wn, Wt, s0, s1, fr, hR, hM, hB, hO, b1, b2, b3⟩ := hL
  obtain ⟨hV, hVH⟩ := cr_VC hR hB
  have hcc : u + 110 ≤ cCM ∧ v + 910000 ≤ cSM := by unfold cCM cSM; omega
  have hx := cr_x hR
  have hrm : Rm S := cr_rm (by omega) hR
  obtain ⟨st, L9, hQ⟩ := cr_q hR
  have hM9 : M ≤ 9800 := by omega
  have hm := hM.1.1
  have z0 : Int32.toNatClampNeg 0 = 0 := by decide
  have w0 : vp_in 0 1 := vp_in_nI (n := 0) (by decide) (by decide)
  have hOs := hO
  obtain ⟨⟨p1, p2, p3⟩, -⟩ := hOs
  have hMC := mo_sC hM
  have hRC := cr_sC hR
  have hOC := hO.fr (Fr.sC S 1 6)
  have hmC := hMC.1.1
  refine ⟨by simp [cat1, Value.category], by show (3 : Nat) ≤ 4; decide, ?_⟩
  show Run ks (WG ks (d + 29)) Q tb_L_missingAt 0 [some (.ref x), some (.int a), some (.ref ol), none] [] S
  simp only [e_L_missingAt_0, e_L_missingAt_1, e_L_missingAt_2, e_L_missingAt_3, e_L_missingAt_4, e_L_missingAt_7, e_L_missingAt_8, e_L_missingAt_9, e_L_missingAt_12, e_L_missingAt_13, e_L_missingAt_14, e_L_missingAt_15, e_L_missingAt_16, o_const, o_iload, o_aload, o_fload, o_dload, o_istore, o_astore, o_fstore, o_dstore, o_iinc, o_bin, o_div, o_un, o_i2l, o_i2f, o_i2d, o_f2d, o_fdiv, o_ddiv, o_lcmp, o_fcmp, o_dcmp, o_if, o_if2, o_goto, o_dup, o_dupx1, o_dup2, o_pop, o_getI, o_getR, o_putI, o_putR, o_iald, o_iast, o_bald, o_bast, o_zald, o_zast, o_aald, o_aast, o_jald, o_jast, o_dald, o_dast, o_alen, o_castA, o_new, o_newa, o_callv, o_callvN, o_calli, o_calls, o_objinit, o_iret, o_zret, o_fret, o_dret, o_aret, o_vret, o_throw, o_acopy, o_bcopy, o_clone, o_tsw, o_ldcS, o_kval, o_kcoder, o_klen, o_kald, o_tald, o_getSq, o_callk, o_callvH, gl, stl, stl2, pre2, va_rf, Value.category, catS, List.length_cons, List.length_nil, List.map_cons, List.map_nil, List.sum_cons, List.sum_nil, List.take_succ_cons, List.take_zero, List.drop_succ_cons, List.drop_zero, List.reverse_cons, List.reverse_nil, List.nil_append, List.cons_append, true_and, and_true, if_true, Nat.reduceAdd, Nat.reduceLT, Nat.reduceLeDiff, hx]
  refine ⟨⟨x, _, rfl, rfl, hx⟩, sp_missingAt (by omega) hR ?_ ?_⟩
  · intro S' hc hR' F'
    have hM' := mo_cls hM F'
    have hO' := hO.fr F'
    have hOt := hO'
    obtain ⟨⟨q1, q2, q3⟩, -⟩ := hOt
    simp only [behH, e_L_missingAt_0, e_L_missingAt_1, e_L_missingAt_2, e_L_missingAt_3, e_L_missingAt_4, e_L_missingAt_7, e_L_missingAt_8, e_L_missingAt_9, e_L_missingAt_12, e_L_missingAt_13, e_L_missingAt_14, e_L_missingAt_15, e_L_missingAt_16, o_const, o_iload, o_aload, o_fload, o_dload, o_istore, o_astore, o_fstore, o_dstore, o_iinc, o_bin, o_div, o_un, o_i2l, o_i2f, o_i2d, o_f2d, o_fdiv, o_ddiv, o_lcmp, o_fcmp, o_dcmp, o_if, o_if2, o_goto, o_dup, o_dupx1, o_dup2, o_pop, o_getI, o_getR, o_putI, o_putR, o_iald, o_iast, o_bald, o_bast, o_zald, o_zast, o_aald, o_aast, o_jald, o_jast, o_dald, o_dast, o_alen, o_castA, o_new, o_newa, o_callv, o_callvN, o_calli, o_calls, o_objinit, o_iret, o_zret, o_fret, o_dret, o_aret, o_vret, o_throw, o_acopy, o_bcopy, o_clone, o_tsw, o_ldcS, o_kval, o_kcoder, o_klen, o_kald, o_tald, o_getSq, o_callk, o_callvH, gl, stl, stl2, pre2, va_rf, Value.category, catS, List.length_cons, List.length_nil, List.map_cons, List.map_nil, List.sum_cons, List.sum_nil, List.take_succ_cons, List.take_zero, List.drop_succ_cons, List.drop_zero, List.reverse_cons, List.reverse_nil, List.nil_append, List.cons_append, true_and, and_true, if_true, Nat.reduceAdd, Nat.reduceLT, Nat.reduceLeDiff, q1, q2, q3, z0, w0]
    exact h _ 0 (by decide) (fun d2 Q2 hq => sp_mMissingAt (mo_sJ hM') hV (fun S2 w hMo g6 ev F2 => hq S2 w (li_mk (cr_sJ hR') hMo F2 (hB) (o_sJ hO') (by omega) (by omega) (by omega)) (g6.trans (congrArg nI hc)) (fun _ => by rw [gJ_keep (o_sJ hO') F2, gJ_at, ev hc]))) ⟨(mo_sJ hM').1.1, o_sJ hO'⟩
  · intro S' e hR' F'
    have hM' := mo_cls hM F'
    have hO' := hO.fr F'
    have hOt := hO'
    obtain ⟨⟨q1, q2, q3⟩, -⟩ := hOt
    simp only [behH]
    refine ⟨_, rfl, fun q => ?_⟩
    simp only [e_L_missingAt_0, e_L_missingAt_1, e_L_missingAt_2, e_L_missingAt_3, e_L_missingAt_4, e_L_missingAt_7, e_L_missingAt_8, e_L_missingAt_9, e_L_missingAt_12, e_L_missingAt_13, e_L_missingAt_14, e_L_missingAt_15, e_L_missingAt_16, o_const, o_iload, o_aload, o_fload, o_dload, o_istore, o_astore, o_fstore, o_dstore, o_iinc, o_bin, o_div, o_un, o_i2l, o_i2f, o_i2d, o_f2d, o_fdiv, o_ddiv, o_lcmp, o_fcmp, o_dcmp, o_if, o_if2, o_goto, o_dup, o_dupx1, o_dup2, o_pop, o_getI, o_getR, o_putI, o_putR, o_iald, o_iast, o_bald, o_bast, o_zald, o_zast, o_aald, o_aast, o_jald, o_jast, o_dald, o_dast, o_alen, o_castA, o_new, o_newa, o_callv, o_callvN, o_calli, o_calls, o_objinit, o_iret, o_zret, o_fret, o_dret, o_aret, o_vret, o_throw, o_acopy, o_bcopy, o_clone, o_tsw, o_ldcS, o_kval, o_kcoder, o_klen, o_kald, o_tald, o_getSq, o_callk, o_callvH, gl, stl, stl2, pre2, va_rf, Value.category, catS, List.length_cons, List.length_nil, List.map_cons, List.map_nil, List.sum_cons, List.sum_nil, List.take_succ_cons, List.take_zero, List.drop_succ_cons, List.drop_zero, List.reverse_cons, List.reverse_nil, List.nil_append, List.cons_append, true_and, and_true, if_true, Nat.reduceAdd, Nat.reduceLT, Nat.reduceLeDiff]
    exact h _ 1 (by decide) (fun d2 Q2 hq => sp_mMissingAt (mo_sC hM') hV (fun S2 w hMo g6 ev F2 => hq S2 w (li_mk (cr_sC hR') hMo F2 hB (hO'.fr (Fr.sC S' 1 6)) (by omega) (by omega) (by omega)) (g6.trans (congrArg nI e)) (fun z => absurd z (by decide)))) ⟨(mo_sC hM').1.1, hO'.fr (Fr.sC S' 1 6)⟩
theorem pr_inputFor (hks : ¬ ks 11 = ks 10) (hL : LI S x m ol od ad n) (hn : n < 512) {a : Int32} (h : ∀ S1 (k : Nat), k ≤ 3 → MdC ks n_X9_inputFor [.ref m, .int a] S1 x m ol od ad (n + 1) k → MdF S1 m ol od → Q (.inl (some (.int (nI k)))) S1) : WG ks (d + 30) n_L_inputFor [.ref x, .int a, .ref ol] S Q := by
  obtain ⟨M, u, v, tl, T, eA, hn', H, C, wn, Wt, s0, s1, fr, hR, hM, hB, hO, b1, b2, b3⟩ := hL
  obtain ⟨hV, hVH⟩ := cr_VC hR hB
  have hcc : u + 110 ≤ cCM ∧ v + 910000 ≤ cSM := by unfold cCM cSM; omega
  have hx := cr_x hR
  have hrm : Rm S := cr_rm (by omega) hR
  obtain ⟨st, L9, hQ⟩ := cr_q hR
  have hM9 : M ≤ 9800 := by omega
  have hm := hM.1.1
  have z0 : Int32.toNatClampNeg 0 = 0 := by decide
  have w0 : vp_in 0 1 := vp_in_nI (n := 0) (by decide) (by decide)
  have hOs := hO
  obtain ⟨⟨p1, p2, p3⟩, -⟩ := hOs
  have hMC := mo_sC hM
  have hRC := cr_sC hR
  have hOC := hO.fr (Fr.sC S 1 6)
  have hmC := hMC.1.1
  refine ⟨by simp [cat1, Value.category], by show (3 : Nat) ≤ 4; decide, ?_⟩
  show Run ks (WG ks (d + 29)) Q tb_L_inputFor 0 [some (.ref x), some (.int a), some (.ref ol), none] [] S
  simp only [e_L_inputFor_0, e_L_inputFor_1, e_L_inputFor_2, e_L_inputFor_3, e_L_inputFor_4, e_L_inputFor_7, e_L_inputFor_8, e_L_inputFor_9, e_L_inputFor_12, e_L_inputFor_13, e_L_inputFor_14, e_L_inputFor_15, e_L_inputFor_16, o_const, o_iload, o_aload, o_fload, o_dload, o_istore, o_astore, o_fstore, o_dstore, o_iinc, o_bin, o_div, o_un, o_i2l, o_i2f, o_i2d, o_f2d, o_fdiv, o_ddiv, o_lcmp, o_fcmp, o_dcmp, o_if, o_if2, o_goto, o_dup, o_dupx1, o_dup2, o_pop, o_getI, o_getR, o_putI, o_putR, o_iald, o_iast, o_bald, o_bast, o_zald, o_zast, o_aald, o_aast, o_jald, o_jast, o_dald, o_dast, o_alen, o_castA, o_new, o_newa, o_callv, o_callvN, o_calli, o_calls, o_objinit, o_iret, o_zret, o_fret, o_dret, o_aret, o_vret, o_throw, o_acopy, o_bcopy, o_clone, o_tsw, o_ldcS, o_kval, o_kcoder, o_klen, o_kald, o_tald, o_getSq, o_callk, o_callvH, gl, stl, stl2, pre2, va_rf, Value.category, catS, List.length_cons, List.length_nil, List.map_cons, List.map_nil, List.sum_cons, List.sum_nil, List.take_succ_cons, List.take_zero, List.drop_succ_cons, List.drop_zero, List.reverse_cons, List.reverse_nil, List.nil_append, List.cons_append, true_and, and_true, if_true, Nat.reduceAdd, Nat.reduceLT, Nat.reduceLeDiff, hx]
  refine ⟨⟨x, _, rfl, rfl, hx⟩, sp_inputFor (by omega) hR ?_ ?_⟩
  · intro S' hc hR' F'
    have hM' := mo_cls hM F'
    have hO' := hO.fr F'
    have hOt := hO'
    obtain ⟨⟨q1, q2, q3⟩, -⟩ := hOt
    simp only [behH, e_L_inputFor_0, e_L_inputFor_1, e_L_inputFor_2, e_L_inputFor_3, e_L_inputFor_4, e_L_inputFor_7, e_L_inputFor_8, e_L_inputFor_9, e_L_inputFor_12, e_L_inputFor_13, e_L_inputFor_14, e_L_inputFor_15, e_L_inputFor_16, o_const, o_iload, o_aload, o_fload, o_dload, o_istore, o_astore, o_fstore, o_dstore, o_iinc, o_bin, o_div, o_un, o_i2l, o_i2f, o_i2d, o_f2d, o_fdiv, o_ddiv, o_lcmp, o_fcmp, o_dcmp, o_if, o_if2, o_goto, o_dup, o_dupx1, o_dup2, o_pop, o_getI, o_getR, o_putI, o_putR, o_iald, o_iast, o_bald, o_bast, o_zald, o_zast, o_aald, o_aast, o_jald, o_jast, o_dald, o_dast, o_alen, o_castA, o_new, o_newa, o_callv, o_callvN, o_calli, o_calls, o_objinit, o_iret, o_zret, o_fret, o_dret, o_aret, o_vret, o_throw, o_acopy, o_bcopy, o_clone, o_tsw, o_ldcS, o_kval, o_kcoder, o_klen, o_kald, o_tald, o_getSq, o_callk, o_callvH, gl, stl, stl2, pre2, va_rf, Value.category, catS, List.length_cons, List.length_nil, List.map_cons, List.map_nil, List.sum_cons, List.sum_nil, List.take_succ_cons, List.take_zero, List.drop_succ_cons, List.drop_zero, List.reverse_cons, List.reverse_nil, List.nil_append, List.cons_append, true_and, and_true, if_true, Nat.reduceAdd, Nat.reduceLT, Nat.reduceLeDiff, q1, q2, q3, z0, w0]
    exact h _ 0 (by decide) (fun d2 Q2 hq => sp_mInputFor (mo_sJ hM') hV (fun S2 w hMo g6 ev F2 => hq S2 w (li_mk (cr_sJ hR') hMo F2 (hB) (o_sJ hO') (by omega) (by omega) (by omega)) (g6.trans (congrArg nI hc)) (fun _ => by rw [gJ_keep (o_sJ hO') F2, gJ_at, ev hc]))) ⟨(mo_sJ hM').1.1, o_sJ hO'⟩
  · intro S' e hR' F'
    have hM' := mo_cls hM F'
    have hO' := hO.fr F'
    have hOt := hO'
    obtain ⟨⟨q1, q2, q3⟩, -⟩ := hOt
    simp only [behH]
    refine ⟨_, rfl, fun q => ?_⟩
    simp only [e_L_inputFor_0, e_L_inputFor_1, e_L_inputFor_2, e_L_inputFor_3, e_L_inputFor_4, e_L_inputFor_7, e_L_inputFor_8, e_L_inputFor_9, e_L_inputFor_12, e_L_inputFor_13, e_L_inputFor_14, e_L_inputFor_15, e_L_inputFor_16, o_const, o_iload, o_aload, o_fload, o_dload, o_istore, o_astore, o_fstore, o_dstore, o_iinc, o_bin, o_div, o_un, o_i2l, o_i2f, o_i2d, o_f2d, o_fdiv, o_ddiv, o_lcmp, o_fcmp, o_dcmp, o_if, o_if2, o_goto, o_dup, o_dupx1, o_dup2, o_pop, o_getI, o_getR, o_putI, o_putR, o_iald, o_iast, o_bald, o_bast, o_zald, o_zast, o_aald, o_aast, o_jald, o_jast, o_dald, o_dast, o_alen, o_castA, o_new, o_newa, o_callv, o_callvN, o_calli, o_calls, o_objinit, o_iret, o_zret, o_fret, o_dret, o_aret, o_vret, o_throw, o_acopy, o_bcopy, o_clone, o_tsw, o_ldcS, o_kval, o_kcoder, o_klen, o_kald, o_tald, o_getSq, o_callk, o_callvH, gl, stl, stl2, pre2, va_rf, Value.category, catS, List.length_cons, List.length_nil, List.map_cons, List.map_nil, List.sum_cons, List.sum_nil, List.take_succ_cons, List.take_zero, List.drop_succ_cons, List.drop_zero, List.reverse_cons, List.reverse_nil, List.nil_append, List.cons_append, true_and, and_true, if_true, Nat.reduceAdd, Nat.reduceLT, Nat.reduceLeDiff]
    exact h _ 1 (by decide) (fun d2 Q2 hq => sp_mInputFor (mo_sC hM') hV (fun S2 w hMo g6 ev F2 => hq S2 w (li_mk (cr_sC hR') hMo F2 hB (hO'.fr (Fr.sC S' 1 6)) (by omega) (by omega) (by omega)) (g6.trans (congrArg nI e)) (fun z => absurd z (by decide)))) ⟨(mo_sC hM').1.1, hO'.fr (Fr.sC S' 1 6)⟩
theorem pr_writtenByte (hks : ¬ ks 11 = ks 10) (hL : LI S x m ol od ad n) (hn : n < 512) {a : Int32} (h : ∀ S1 (k : Nat), k ≤ 3 → MdC ks n_X9_writtenByte [.ref m, .int a] S1 x m ol od ad (n + 1) k → MdF S1 m ol od → Q (.inl (some (.int (nI k)))) S1) : WG ks (d + 30) n_L_writtenByte [.ref x, .int a, .ref ol] S Q := by
  obtain ⟨M, u, v, tl, T, eA, hn', H, C, wn, Wt, s0, s1, fr, hR, hM, hB, hO, b1, b2, b3⟩ := hL
  obtain ⟨hV, hVH⟩ := cr_VC hR hB
  have hcc : u + 110 ≤ cCM ∧ v + 910000 ≤ cSM := by unfold cCM cSM; omega
  have hx := cr_x hR
  have hrm : Rm S := cr_rm (by omega) hR
  obtain ⟨st, L9, hQ⟩ := cr_q hR
  have hM9 : M ≤ 9800 := by omega
  have hm := hM.1.1
  have z0 : Int32.toNatClampNeg 0 = 0 := by decide
  have w0 : vp_in 0 1 := vp_in_nI (n := 0) (by decide) (by decide)
  have hOs := hO
  obtain ⟨⟨p1, p2, p3⟩, -⟩ := hOs
  have hMC := mo_sC hM
  have hRC := cr_sC hR
  have hOC := hO.fr (Fr.sC S 1 6)
  have hmC := hMC.1.1
  refine ⟨by simp [cat1, Value.category], by show (3 : Nat) ≤ 4; decide, ?_⟩
  show Run ks (WG ks (d + 29)) Q tb_L_writtenByte 0 [some (.ref x), some (.int a), some (.ref ol), none] [] S
  simp only [e_L_writtenByte_0, e_L_writtenByte_1, e_L_writtenByte_2, e_L_writtenByte_3, e_L_writtenByte_4, e_L_writtenByte_7, e_L_writtenByte_8, e_L_writtenByte_9, e_L_writtenByte_12, e_L_writtenByte_13, e_L_writtenByte_14, e_L_writtenByte_15, e_L_writtenByte_16, o_const, o_iload, o_aload, o_fload, o_dload, o_istore, o_astore, o_fstore, o_dstore, o_iinc, o_bin, o_div, o_un, o_i2l, o_i2f, o_i2d, o_f2d, o_fdiv, o_ddiv, o_lcmp, o_fcmp, o_dcmp, o_if, o_if2, o_goto, o_dup, o_dupx1, o_dup2, o_pop, o_getI, o_getR, o_putI, o_putR, o_iald, o_iast, o_bald, o_bast, o_zald, o_zast, o_aald, o_aast, o_jald, o_jast, o_dald, o_dast, o_alen, o_castA, o_new, o_newa, o_callv, o_callvN, o_calli, o_calls, o_objinit, o_iret, o_zret, o_fret, o_dret, o_aret, o_vret, o_throw, o_acopy, o_bcopy, o_clone, o_tsw, o_ldcS, o_kval, o_kcoder, o_klen, o_kald, o_tald, o_getSq, o_callk, o_callvH, gl, stl, stl2, pre2, va_rf, Value.category, catS, List.length_cons, List.length_nil, List.map_cons, List.map_nil, List.sum_cons, List.sum_nil, List.take_succ_cons, List.take_zero, List.drop_succ_cons, List.drop_zero, List.reverse_cons, List.reverse_nil, List.nil_append, List.cons_append, true_and, and_true, if_true, Nat.reduceAdd, Nat.reduceLT, Nat.reduceLeDiff, hx]
  refine ⟨⟨x, _, rfl, rfl, hx⟩, sp_writtenByte (by omega) hR ?_ ?_⟩
  · intro hc
    have F' := Fr.rf S
    have hR' := hR
    have hM' := hM
    have hO' := hO
    have hOt := hO'
    obtain ⟨⟨q1, q2, q3⟩, -⟩ := hOt
    simp only [behH, e_L_writtenByte_0, e_L_writtenByte_1, e_L_writtenByte_2, e_L_writtenByte_3, e_L_writtenByte_4, e_L_writtenByte_7, e_L_writtenByte_8, e_L_writtenByte_9, e_L_writtenByte_12, e_L_writtenByte_13, e_L_writtenByte_14, e_L_writtenByte_15, e_L_writtenByte_16, o_const, o_iload, o_aload, o_fload, o_dload, o_istore, o_astore, o_fstore, o_dstore, o_iinc, o_bin, o_div, o_un, o_i2l, o_i2f, o_i2d, o_f2d, o_fdiv, o_ddiv, o_lcmp, o_fcmp, o_dcmp, o_if, o_if2, o_goto, o_dup, o_dupx1, o_dup2, o_pop, o_getI, o_getR, o_putI, o_putR, o_iald, o_iast, o_bald, o_bast, o_zald, o_zast, o_aald, o_aast, o_jald, o_jast, o_dald, o_dast, o_alen, o_castA, o_new, o_newa, o_callv, o_callvN, o_calli, o_calls, o_objinit, o_iret, o_zret, o_fret, o_dret, o_aret, o_vret, o_throw, o_acopy, o_bcopy, o_clone, o_tsw, o_ldcS, o_kval, o_kcoder, o_klen, o_kald, o_tald, o_getSq, o_callk, o_callvH, gl, stl, stl2, pre2, va_rf, Value.category, catS, List.length_cons, List.length_nil, List.map_cons, List.map_nil, List.sum_cons, List.sum_nil, List.take_succ_cons, List.take_zero, List.drop_succ_cons, List.drop_zero, List.reverse_cons, List.reverse_nil, List.nil_append, List.cons_append, true_and, and_true, if_true, Nat.reduceAdd, Nat.reduceLT, Nat.reduceLeDiff, q1, q2, q3, z0, w0]
    exact h _ 0 (by decide) (fun d2 Q2 hq => sp_mWByte (mo_sJ hM') (fun S2 w hMo g6 ev F2 => hq S2 w (li_mk (cr_sJ hR') hMo F2 (hB) (o_sJ hO') (by omega) (by omega) (by omega)) (g6.trans (congrArg nI hc)) (fun _ => by rw [gJ_keep (o_sJ hO') F2, gJ_at, ev hc]))) ⟨(mo_sJ hM').1.1, o_sJ hO'⟩
  · intro e
    simp only [behH]
    refine ⟨_, rfl, fun q => ?_⟩
    simp only [e_L_writtenByte_0, e_L_writtenByte_1, e_L_writtenByte_2, e_L_writtenByte_3, e_L_writtenByte_4, e_L_writtenByte_7, e_L_writtenByte_8, e_L_writtenByte_9, e_L_writtenByte_12, e_L_writtenByte_13, e_L_writtenByte_14, e_L_writtenByte_15, e_L_writtenByte_16, o_const, o_iload, o_aload, o_fload, o_dload, o_istore, o_astore, o_fstore, o_dstore, o_iinc, o_bin, o_div, o_un, o_i2l, o_i2f, o_i2d, o_f2d, o_fdiv, o_ddiv, o_lcmp, o_fcmp, o_dcmp, o_if, o_if2, o_goto, o_dup, o_dupx1, o_dup2, o_pop, o_getI, o_getR, o_putI, o_putR, o_iald, o_iast, o_bald, o_bast, o_zald, o_zast, o_aald, o_aast, o_jald, o_jast, o_dald, o_dast, o_alen, o_castA, o_new, o_newa, o_callv, o_callvN, o_calli, o_calls, o_objinit, o_iret, o_zret, o_fret, o_dret, o_aret, o_vret, o_throw, o_acopy, o_bcopy, o_clone, o_tsw, o_ldcS, o_kval, o_kcoder, o_klen, o_kald, o_tald, o_getSq, o_callk, o_callvH, gl, stl, stl2, pre2, va_rf, Value.category, catS, List.length_cons, List.length_nil, List.map_cons, List.map_nil, List.sum_cons, List.sum_nil, List.take_succ_cons, List.take_zero, List.drop_succ_cons, List.drop_zero, List.reverse_cons, List.reverse_nil, List.nil_append, List.cons_append, true_and, and_true, if_true, Nat.reduceAdd, Nat.reduceLT, Nat.reduceLeDiff]
    exact h _ 1 (by decide) (fun d2 Q2 hq => sp_mWByte hMC (fun S2 w hMo g6 ev F2 => hq S2 w (li_mk hRC hMo F2 hB hOC (by omega) (by omega) (by omega)) (g6.trans (congrArg nI e)) (fun z => absurd z (by decide)))) ⟨hmC, hOC⟩
theorem pr_append (hks : ¬ ks 11 = ks 10) (hL : LI S x m ol od ad n) (hn : n < 512) {a b c e1 f1 : Int32} (h : ∀ S1 (k : Nat), k ≤ 3 → MdC ks n_X9_append [.ref m, .int a, .int b, .int c, .int e1, .int f1] S1 x m ol od ad (n + 1) k → MdF S1 m ol od → Q (.inl (some (.int (nI k)))) S1) : WG ks (d + 30) n_L_append [.ref x, .int a, .int b, .int c, .int e1, .int f1, .ref ol] S Q := by
  obtain ⟨M, u, v, tl, T, eA, hn', H, C, wn, Wt, s0, s1, fr, hR, hM, hB, hO, b1, b2, b3⟩ := hL
  obtain ⟨hV, hVH⟩ := cr_VC hR hB
  have hcc : u + 110 ≤ cCM ∧ v + 910000 ≤ cSM := by unfold cCM cSM; omega
  have hx := cr_x hR
  have hrm : Rm S := cr_rm (by omega) hR
  obtain ⟨st, L9, hQ⟩ := cr_q hR
  have hM9 : M ≤ 9800 := by omega
  have hm := hM.1.1
  have z0 : Int32.toNatClampNeg 0 = 0 := by decide
  have w0 : vp_in 0 1 := vp_in_nI (n := 0) (by decide) (by decide)
  have hOs := hO
  obtain ⟨⟨p1, p2, p3⟩, -⟩ := hOs
  have hMC := mo_sC hM
  have hRC := cr_sC hR
  have hOC := hO.fr (Fr.sC S 1 6)
  have hmC := hMC.1.1
  refine ⟨by simp [cat1, Value.category], by show (7 : Nat) ≤ 8; decide, ?_⟩
  show Run ks (WG ks (d + 29)) Q tb_L_append 0 [some (.ref x), some (.int a), some (.int b), some (.int c), some (.int e1), some (.int f1), some (.ref ol), none] [] S
  simp only [e_L_append_0, e_L_append_2, e_L_append_3, e_L_append_4, e_L_append_5, e_L_append_6, e_L_append_7, e_L_append_9, e_L_append_11, e_L_append_14, e_L_append_15, e_L_append_16, e_L_append_19, e_L_append_21, e_L_append_22, e_L_append_23, e_L_append_24, o_const, o_iload, o_aload, o_fload, o_dload, o_istore, o_astore, o_fstore, o_dstore, o_iinc, o_bin, o_div, o_un, o_i2l, o_i2f, o_i2d, o_f2d, o_fdiv, o_ddiv, o_lcmp, o_fcmp, o_dcmp, o_if, o_if2, o_goto, o_dup, o_dupx1, o_dup2, o_pop, o_getI, o_getR, o_putI, o_putR, o_iald, o_iast, o_bald, o_bast, o_zald, o_zast, o_aald, o_aast, o_jald, o_jast, o_dald, o_dast, o_alen, o_castA, o_new, o_newa, o_callv, o_callvN, o_calli, o_calls, o_objinit, o_iret, o_zret, o_fret, o_dret, o_aret, o_vret, o_throw, o_acopy, o_bcopy, o_clone, o_tsw, o_ldcS, o_kval, o_kcoder, o_klen, o_kald, o_tald, o_getSq, o_callk, o_callvH, gl, stl, stl2, pre2, va_rf, Value.category, catS, List.length_cons, List.length_nil, List.map_cons, List.map_nil, List.sum_cons, List.sum_nil, List.take_succ_cons, List.take_zero, List.drop_succ_cons, List.drop_zero, List.reverse_cons, List.reverse_nil, List.nil_append, List.cons_append, true_and, and_true, if_true, Nat.reduceAdd, Nat.reduceLT, Nat.reduceLeDiff, hx]
  refine ⟨⟨x, _, rfl, rfl, hx⟩, sp_append (by omega) hR ?_ ?_⟩
  · intro S' hc hR' F'
    have hM' := mo_cls hM F'
    have hO' := hO.fr F'
    have hOt := hO'
    obtain ⟨⟨q1, q2, q3⟩, -⟩ := hOt
    simp only [behH, e_L_append_0, e_L_append_2, e_L_append_3, e_L_append_4, e_L_append_5, e_L_append_6, e_L_append_7, e_L_append_9, e_L_append_11, e_L_append_14, e_L_append_15, e_L_append_16, e_L_append_19, e_L_append_21, e_L_append_22, e_L_append_23, e_L_append_24, o_const, o_iload, o_aload, o_fload, o_dload, o_istore, o_astore, o_fstore, o_dstore, o_iinc, o_bin, o_div, o_un, o_i2l, o_i2f, o_i2d, o_f2d, o_fdiv, o_ddiv, o_lcmp, o_fcmp, o_dcmp, o_if, o_if2, o_goto, o_dup, o_dupx1, o_dup2, o_pop, o_getI, o_getR, o_putI, o_putR, o_iald, o_iast, o_bald, o_bast, o_zald, o_zast, o_aald, o_aast, o_jald, o_jast, o_dald, o_dast, o_alen, o_castA, o_new, o_newa, o_callv, o_callvN, o_calli, o_calls, o_objinit, o_iret, o_zret, o_fret, o_dret, o_aret, o_vret, o_throw, o_acopy, o_bcopy, o_clone, o_tsw, o_ldcS, o_kval, o_kcoder, o_klen, o_kald, o_tald, o_getSq, o_callk, o_callvH, gl, stl, stl2, pre2, va_rf, Value.category, catS, List.length_cons, List.length_nil, List.map_cons, List.map_nil, List.sum_cons, List.sum_nil, List.take_succ_cons, List.take_zero, List.drop_succ_cons, List.drop_zero, List.reverse_cons, List.reverse_nil, List.nil_append, List.cons_append, true_and, and_true, if_true, Nat.reduceAdd, Nat.reduceLT, Nat.reduceLeDiff, q1, q2, q3, z0, w0]
    exact h _ 0 (by decide) (fun d2 Q2 hq => sp_mAppend (mo_sJ hM') (fun S2 _ hMo g6 F2 => hq S2 _ (li_mk (cr_sJ hR') hMo F2 (hB) (o_sJ hO') (by omega) (by omega) (by omega)) g6 (fun _ => by rw [gJ_keep (o_sJ hO') F2, gJ_at])) (fun S2 w e2 hMo g6 F2 => absurd hc e2)) ⟨(mo_sJ hM').1.1, o_sJ hO'⟩
  · intro e
    simp only [behH]
    refine ⟨_, rfl, fun q => ?_⟩
    simp only [e_L_append_0, e_L_append_2, e_L_append_3, e_L_append_4, e_L_append_5, e_L_append_6, e_L_append_7, e_L_append_9, e_L_append_11, e_L_append_14, e_L_append_15, e_L_append_16, e_L_append_19, e_L_append_21, e_L_append_22, e_L_append_23, e_L_append_24, o_const, o_iload, o_aload, o_fload, o_dload, o_istore, o_astore, o_fstore, o_dstore, o_iinc, o_bin, o_div, o_un, o_i2l, o_i2f, o_i2d, o_f2d, o_fdiv, o_ddiv, o_lcmp, o_fcmp, o_dcmp, o_if, o_if2, o_goto, o_dup, o_dupx1, o_dup2, o_pop, o_getI, o_getR, o_putI, o_putR, o_iald, o_iast, o_bald, o_bast, o_zald, o_zast, o_aald, o_aast, o_jald, o_jast, o_dald, o_dast, o_alen, o_castA, o_new, o_newa, o_callv, o_callvN, o_calli, o_calls, o_objinit, o_iret, o_zret, o_fret, o_dret, o_aret, o_vret, o_throw, o_acopy, o_bcopy, o_clone, o_tsw, o_ldcS, o_kval, o_kcoder, o_klen, o_kald, o_tald, o_getSq, o_callk, o_callvH, gl, stl, stl2, pre2, va_rf, Value.category, catS, List.length_cons, List.length_nil, List.map_cons, List.map_nil, List.sum_cons, List.sum_nil, List.take_succ_cons, List.take_zero, List.drop_succ_cons, List.drop_zero, List.reverse_cons, List.reverse_nil, List.nil_append, List.cons_append, true_and, and_true, if_true, Nat.reduceAdd, Nat.reduceLT, Nat.reduceLeDiff]
    exact h _ 1 (by decide) (fun d2 Q2 hq => sp_mAppend hMC (fun S2 e2 hMo g6 F2 => absurd e2 e) (fun S2 w e2 hMo g6 F2 => hq S2 w (li_mk hRC hMo F2 hB hOC (by omega) (by omega) (by omega)) g6 (fun z => absurd z (by decide)))) ⟨hmC, hOC⟩
theorem pr_absorbs (hks : ¬ ks 11 = ks 10) (hL : LI S x m ol od ad n) (hn : n < 512) {a b : Int32} (h : ∀ S1 (k : Nat), k ≤ 3 → MdC ks n_X9_absorbs [.ref m, .int a, .int b] S1 x m ol od ad (n + 1) k → MdF S1 m ol od → Q (.inl (some (.int (nI k)))) S1) : WG ks (d + 30) n_L_absorbs [.ref x, .int a, .int b, .ref ol] S Q := by
  obtain ⟨M, u, v, tl, T, eA, hn', H, C, wn, Wt, s0, s1, fr, hR, hM, hB, hO, b1, b2, b3⟩ := hL
  obtain ⟨hV, hVH⟩ := cr_VC hR hB
  have hcc : u + 110 ≤ cCM ∧ v + 910000 ≤ cSM := by unfold cCM cSM; omega
  have hx := cr_x hR
  have hrm : Rm S := cr_rm (by omega) hR
  obtain ⟨st, L9, hQ⟩ := cr_q hR
  have hM9 : M ≤ 9800 := by omega
  have hm := hM.1.1
  have z0 : Int32.toNatClampNeg 0 = 0 := by decide
  have w0 : vp_in 0 1 := vp_in_nI (n := 0) (by decide) (by decide)
  have hOs := hO
  obtain ⟨⟨p1, p2, p3⟩, -⟩ := hOs
  have hMC := mo_sC hM
  have hRC := cr_sC hR
  have hOC := hO.fr (Fr.sC S 1 6)
  have hmC := hMC.1.1
  refine ⟨by simp [cat1, Value.category], by show (4 : Nat) ≤ 5; decide, ?_⟩
  show Run ks (WG ks (d + 29)) Q tb_L_absorbs 0 [some (.ref x), some (.int a), some (.int b), some (.ref ol), none] [] S
  simp only [e_L_absorbs_0, e_L_absorbs_1, e_L_absorbs_2, e_L_absorbs_3, e_L_absorbs_4, e_L_absorbs_5, e_L_absorbs_8, e_L_absorbs_9, e_L_absorbs_10, e_L_absorbs_13, e_L_absorbs_15, e_L_absorbs_16, e_L_absorbs_17, e_L_absorbs_18, o_const, o_iload, o_aload, o_fload, o_dload, o_istore, o_astore, o_fstore, o_dstore, o_iinc, o_bin, o_div, o_un, o_i2l, o_i2f, o_i2d, o_f2d, o_fdiv, o_ddiv, o_lcmp, o_fcmp, o_dcmp, o_if, o_if2, o_goto, o_dup, o_dupx1, o_dup2, o_pop, o_getI, o_getR, o_putI, o_putR, o_iald, o_iast, o_bald, o_bast, o_zald, o_zast, o_aald, o_aast, o_jald, o_jast, o_dald, o_dast, o_alen, o_castA, o_new, o_newa, o_callv, o_callvN, o_calli, o_calls, o_objinit, o_iret, o_zret, o_fret, o_dret, o_aret, o_vret, o_throw, o_acopy, o_bcopy, o_clone, o_tsw, o_ldcS, o_kval, o_kcoder, o_klen, o_kald, o_tald, o_getSq, o_callk, o_callvH, gl, stl, stl2, pre2, va_rf, Value.category, catS, List.length_cons, List.length_nil, List.map_cons, List.map_nil, List.sum_cons, List.sum_nil, List.take_succ_cons, List.take_zero, List.drop_succ_cons, List.drop_zero, List.reverse_cons, List.reverse_nil, List.nil_append, List.cons_append, true_and, and_true, if_true, Nat.reduceAdd, Nat.reduceLT, Nat.reduceLeDiff, hx]
  refine ⟨⟨x, _, rfl, rfl, hx⟩, sp_absorbs (by omega) hR ?_ ?_⟩
  · intro S' hc hR' F'
    have hM' := mo_cls hM F'
    have hO' := hO.fr F'
    have hOt := hO'
    obtain ⟨⟨q1, q2, q3⟩, -⟩ := hOt
    simp only [behH, e_L_absorbs_0, e_L_absorbs_1, e_L_absorbs_2, e_L_absorbs_3, e_L_absorbs_4, e_L_absorbs_5, e_L_absorbs_8, e_L_absorbs_9, e_L_absorbs_10, e_L_absorbs_13, e_L_absorbs_15, e_L_absorbs_16, e_L_absorbs_17, e_L_absorbs_18, o_const, o_iload, o_aload, o_fload, o_dload, o_istore, o_astore, o_fstore, o_dstore, o_iinc, o_bin, o_div, o_un, o_i2l, o_i2f, o_i2d, o_f2d, o_fdiv, o_ddiv, o_lcmp, o_fcmp, o_dcmp, o_if, o_if2, o_goto, o_dup, o_dupx1, o_dup2, o_pop, o_getI, o_getR, o_putI, o_putR, o_iald, o_iast, o_bald, o_bast, o_zald, o_zast, o_aald, o_aast, o_jald, o_jast, o_dald, o_dast, o_alen, o_castA, o_new, o_newa, o_callv, o_callvN, o_calli, o_calls, o_objinit, o_iret, o_zret, o_fret, o_dret, o_aret, o_vret, o_throw, o_acopy, o_bcopy, o_clone, o_tsw, o_ldcS, o_kval, o_kcoder, o_klen, o_kald, o_tald, o_getSq, o_callk, o_callvH, gl, stl, stl2, pre2, va_rf, Value.category, catS, List.length_cons, List.length_nil, List.map_cons, List.map_nil, List.sum_cons, List.sum_nil, List.take_succ_cons, List.take_zero, List.drop_succ_cons, List.drop_zero, List.reverse_cons, List.reverse_nil, List.nil_append, List.cons_append, true_and, and_true, if_true, Nat.reduceAdd, Nat.reduceLT, Nat.reduceLeDiff, q1, q2, q3, z0, w0]
    exact h _ 0 (by decide) (fun d2 Q2 hq => sp_mAbsorbs (mo_sJ hM') hV (fun S2 _ hMo g6 F2 => hq S2 _ (li_mk (cr_sJ hR') hMo F2 (hB) (o_sJ hO') (by omega) (by omega) (by omega)) g6 (fun _ => by rw [gJ_keep (o_sJ hO') F2, gJ_at])) (fun S2 w e2 hMo g6 F2 => absurd hc e2)) ⟨(mo_sJ hM').1.1, o_sJ hO'⟩
  · intro e
    simp only [behH]
    refine ⟨_, rfl, fun q => ?_⟩
    simp only [e_L_absorbs_0, e_L_absorbs_1, e_L_absorbs_2, e_L_absorbs_3, e_L_absorbs_4, e_L_absorbs_5, e_L_absorbs_8, e_L_absorbs_9, e_L_absorbs_10, e_L_absorbs_13, e_L_absorbs_15, e_L_absorbs_16, e_L_absorbs_17, e_L_absorbs_18, o_const, o_iload, o_aload, o_fload, o_dload, o_istore, o_astore, o_fstore, o_dstore, o_iinc, o_bin, o_div, o_un, o_i2l, o_i2f, o_i2d, o_f2d, o_fdiv, o_ddiv, o_lcmp, o_fcmp, o_dcmp, o_if, o_if2, o_goto, o_dup, o_dupx1, o_dup2, o_pop, o_getI, o_getR, o_putI, o_putR, o_iald, o_iast, o_bald, o_bast, o_zald, o_zast, o_aald, o_aast, o_jald, o_jast, o_dald, o_dast, o_alen, o_castA, o_new, o_newa, o_callv, o_callvN, o_calli, o_calls, o_objinit, o_iret, o_zret, o_fret, o_dret, o_aret, o_vret, o_throw, o_acopy, o_bcopy, o_clone, o_tsw, o_ldcS, o_kval, o_kcoder, o_klen, o_kald, o_tald, o_getSq, o_callk, o_callvH, gl, stl, stl2, pre2, va_rf, Value.category, catS, List.length_cons, List.length_nil, List.map_cons, List.map_nil, List.sum_cons, List.sum_nil, List.take_succ_cons, List.take_zero, List.drop_succ_cons, List.drop_zero, List.reverse_cons, List.reverse_nil, List.nil_append, List.cons_append, true_and, and_true, if_true, Nat.reduceAdd, Nat.reduceLT, Nat.reduceLeDiff]
    exact h _ 1 (by decide) (fun d2 Q2 hq => sp_mAbsorbs hMC hV (fun S2 e2 hMo g6 F2 => absurd e2 e) (fun S2 w e2 hMo g6 F2 => hq S2 w (li_mk hRC hMo F2 hB hOC (by omega) (by omega) (by omega)) g6 (fun z => absurd z (by decide)))) ⟨hmC, hOC⟩
theorem pr_writeConversion (hks : ¬ ks 11 = ks 10) (hL : LI S x m ol od ad n) (hn : n < 512) {a : Int32} (h : ∀ S1 (k : Nat), k ≤ 3 → MdC ks n_X9_writeConversion [.ref m, .int a] S1 x m ol od ad (n + 1) k → MdF S1 m ol od → Q (.inl (some (.int (nI k)))) S1) : WG ks (d + 30) n_L_writeConversion [.ref x, .int a, .ref ol] S Q := by
  obtain ⟨M, u, v, tl, T, eA, hn', H, C, wn, Wt, s0, s1, fr, hR, hM, hB, hO, b1, b2, b3⟩ := hL
  obtain ⟨hV, hVH⟩ := cr_VC hR hB
  have hcc : u + 110 ≤ cCM ∧ v + 910000 ≤ cSM := by unfold cCM cSM; omega
  have hx := cr_x hR
  have hrm : Rm S := cr_rm (by omega) hR
  obtain ⟨st, L9, hQ⟩ := cr_q hR
  have hM9 : M ≤ 9800 := by omega
  have hm := hM.1.1
  have z0 : Int32.toNatClampNeg 0 = 0 := by decide
  have w0 : vp_in 0 1 := vp_in_nI (n := 0) (by decide) (by decide)
  have hOs := hO
  obtain ⟨⟨p1, p2, p3⟩, -⟩ := hOs
  have hMC := mo_sC hM
  have hRC := cr_sC hR
  have hOC := hO.fr (Fr.sC S 1 6)
  have hmC := hMC.1.1
  refine ⟨by simp [cat1, Value.category], by show (3 : Nat) ≤ 4; decide, ?_⟩
  show Run ks (WG ks (d + 29)) Q tb_L_writeConversion 0 [some (.ref x), some (.int a), some (.ref ol), none] [] S
  simp only [e_L_writeConversion_0, e_L_writeConversion_1, e_L_writeConversion_2, e_L_writeConversion_3, e_L_writeConversion_4, e_L_writeConversion_7, e_L_writeConversion_8, e_L_writeConversion_9, e_L_writeConversion_12, e_L_writeConversion_13, e_L_writeConversion_14, e_L_writeConversion_15, e_L_writeConversion_16, o_const, o_iload, o_aload, o_fload, o_dload, o_istore, o_astore, o_fstore, o_dstore, o_iinc, o_bin, o_div, o_un, o_i2l, o_i2f, o_i2d, o_f2d, o_fdiv, o_ddiv, o_lcmp, o_fcmp, o_dcmp, o_if, o_if2, o_goto, o_dup, o_dupx1, o_dup2, o_pop, o_getI, o_getR, o_putI, o_putR, o_iald, o_iast, o_bald, o_bast, o_zald, o_zast, o_aald, o_aast, o_jald, o_jast, o_dald, o_dast, o_alen, o_castA, o_new, o_newa, o_callv, o_callvN, o_calli, o_calls, o_objinit, o_iret, o_zret, o_fret, o_dret, o_aret, o_vret, o_throw, o_acopy, o_bcopy, o_clone, o_tsw, o_ldcS, o_kval, o_kcoder, o_klen, o_kald, o_tald, o_getSq, o_callk, o_callvH, gl, stl, stl2, pre2, va_rf, Value.category, catS, List.length_cons, List.length_nil, List.map_cons, List.map_nil, List.sum_cons, List.sum_nil, List.take_succ_cons, List.take_zero, List.drop_succ_cons, List.drop_zero, List.reverse_cons, List.reverse_nil, List.nil_append, List.cons_append, true_and, and_true, if_true, Nat.reduceAdd, Nat.reduceLT, Nat.reduceLeDiff, hx]
  refine ⟨⟨x, _, rfl, rfl, hx⟩, sp_writeConversion hks (by omega) hR ?_ ?_⟩
  · intro S' hc hR' F'
    have hM' := mo_cls hM F'
    have hO' := hO.fr F'
    have hOt := hO'
    obtain ⟨⟨q1, q2, q3⟩, -⟩ := hOt
    simp only [behH, e_L_writeConversion_0, e_L_writeConversion_1, e_L_writeConversion_2, e_L_writeConversion_3, e_L_writeConversion_4, e_L_writeConversion_7, e_L_writeConversion_8, e_L_writeConversion_9, e_L_writeConversion_12, e_L_writeConversion_13, e_L_writeConversion_14, e_L_writeConversion_15, e_L_writeConversion_16, o_const, o_iload, o_aload, o_fload, o_dload, o_istore, o_astore, o_fstore, o_dstore, o_iinc, o_bin, o_div, o_un, o_i2l, o_i2f, o_i2d, o_f2d, o_fdiv, o_ddiv, o_lcmp, o_fcmp, o_dcmp, o_if, o_if2, o_goto, o_dup, o_dupx1, o_dup2, o_pop, o_getI, o_getR, o_putI, o_putR, o_iald, o_iast, o_bald, o_bast, o_zald, o_zast, o_aald, o_aast, o_jald, o_jast, o_dald, o_dast, o_alen, o_castA, o_new, o_newa, o_callv, o_callvN, o_calli, o_calls, o_objinit, o_iret, o_zret, o_fret, o_dret, o_aret, o_vret, o_throw, o_acopy, o_bcopy, o_clone, o_tsw, o_ldcS, o_kval, o_kcoder, o_klen, o_kald, o_tald, o_getSq, o_callk, o_callvH, gl, stl, stl2, pre2, va_rf, Value.category, catS, List.length_cons, List.length_nil, List.map_cons, List.map_nil, List.sum_cons, List.sum_nil, List.take_succ_cons, List.take_zero, List.drop_succ_cons, List.drop_zero, List.reverse_cons, List.reverse_nil, List.nil_append, List.cons_append, true_and, and_true, if_true, Nat.reduceAdd, Nat.reduceLT, Nat.reduceLeDiff, q1, q2, q3, z0, w0]
    exact h _ 0 (by decide) (fun d2 Q2 hq => sp_mWriteC (mo_sJ hM') hV (fun S2 _ hMo g6 F2 => hq S2 _ (li_mk (cr_sJ hR') hMo F2 (hB) (o_sJ hO') (by omega) (by omega) (by omega)) g6 (fun _ => by rw [gJ_keep (o_sJ hO') F2, gJ_at])) (fun S2 w e2 hMo g6 F2 => absurd hc e2)) ⟨(mo_sJ hM').1.1, o_sJ hO'⟩
  · intro e
    simp only [behH]
    refine ⟨_, rfl, fun q => ?_⟩
    simp only [e_L_writeConversion_0, e_L_writeConversion_1, e_L_writeConversion_2, e_L_writeConversion_3, e_L_writeConversion_4, e_L_writeConversion_7, e_L_writeConversion_8, e_L_writeConversion_9, e_L_writeConversion_12, e_L_writeConversion_13, e_L_writeConversion_14, e_L_writeConversion_15, e_L_writeConversion_16, o_const, o_iload, o_aload, o_fload, o_dload, o_istore, o_astore, o_fstore, o_dstore, o_iinc, o_bin, o_div, o_un, o_i2l, o_i2f, o_i2d, o_f2d, o_fdiv, o_ddiv, o_lcmp, o_fcmp, o_dcmp, o_if, o_if2, o_goto, o_dup, o_dupx1, o_dup2, o_pop, o_getI, o_getR, o_putI, o_putR, o_iald, o_iast, o_bald, o_bast, o_zald, o_zast, o_aald, o_aast, o_jald, o_jast, o_dald, o_dast, o_alen, o_castA, o_new, o_newa, o_callv, o_callvN, o_calli, o_calls, o_objinit, o_iret, o_zret, o_fret, o_dret, o_aret, o_vret, o_throw, o_acopy, o_bcopy, o_clone, o_tsw, o_ldcS, o_kval, o_kcoder, o_klen, o_kald, o_tald, o_getSq, o_callk, o_callvH, gl, stl, stl2, pre2, va_rf, Value.category, catS, List.length_cons, List.length_nil, List.map_cons, List.map_nil, List.sum_cons, List.sum_nil, List.take_succ_cons, List.take_zero, List.drop_succ_cons, List.drop_zero, List.reverse_cons, List.reverse_nil, List.nil_append, List.cons_append, true_and, and_true, if_true, Nat.reduceAdd, Nat.reduceLT, Nat.reduceLeDiff]
    exact h _ 1 (by decide) (fun d2 Q2 hq => sp_mWriteC hMC hV (fun S2 e2 hMo g6 F2 => absurd e2 e) (fun S2 w e2 hMo g6 F2 => hq S2 w (li_mk hRC hMo F2 hB hOC (by omega) (by omega) (by omega)) g6 (fun z => absurd z (by decide)))) ⟨hmC, hOC⟩
theorem pr_spread (hks : ¬ ks 11 = ks 10) (hL : LI S x m ol od ad n) (hn : n < 512) {a b : Int32} (h : ∀ S1 (k : Nat), k ≤ 3 → MdC ks n_X9_spread [.ref m, .int a, .int b] S1 x m ol od ad (n + 1) k → MdF S1 m ol od → Q (.inl (some (.int (nI k)))) S1) : WG ks (d + 30) n_L_spread [.ref x, .int a, .int b, .ref ol] S Q := by
  obtain ⟨M, u, v, tl, T, eA, hn', H, C, wn, Wt, s0, s1, fr, hR, hM, hB, hO, b1, b2, b3⟩ := hL
  obtain ⟨hV, hVH⟩ := cr_VC hR hB
  have hcc : u + 110 ≤ cCM ∧ v + 910000 ≤ cSM := by unfold cCM cSM; omega
  have hx := cr_x hR
  have hrm : Rm S := cr_rm (by omega) hR
  obtain ⟨st, L9, hQ⟩ := cr_q hR
  have hM9 : M ≤ 9800 := by omega
  have hm := hM.1.1
  have z0 : Int32.toNatClampNeg 0 = 0 := by decide
  have w0 : vp_in 0 1 := vp_in_nI (n := 0) (by decide) (by decide)
  have hOs := hO
  obtain ⟨⟨p1, p2, p3⟩, -⟩ := hOs
  have hMC := mo_sC hM
  have hRC := cr_sC hR
  have hOC := hO.fr (Fr.sC S 1 6)
  have hmC := hMC.1.1
  refine ⟨by simp [cat1, Value.category], by show (4 : Nat) ≤ 5; decide, ?_⟩
  show Run ks (WG ks (d + 29)) Q tb_L_spread 0 [some (.ref x), some (.int a), some (.int b), some (.ref ol), none] [] S
  simp only [e_L_spread_0, e_L_spread_1, e_L_spread_2, e_L_spread_3, e_L_spread_4, e_L_spread_5, e_L_spread_8, e_L_spread_9, e_L_spread_10, e_L_spread_13, e_L_spread_15, e_L_spread_16, e_L_spread_17, e_L_spread_18, o_const, o_iload, o_aload, o_fload, o_dload, o_istore, o_astore, o_fstore, o_dstore, o_iinc, o_bin, o_div, o_un, o_i2l, o_i2f, o_i2d, o_f2d, o_fdiv, o_ddiv, o_lcmp, o_fcmp, o_dcmp, o_if, o_if2, o_goto, o_dup, o_dupx1, o_dup2, o_pop, o_getI, o_getR, o_putI, o_putR, o_iald, o_iast, o_bald, o_bast, o_zald, o_zast, o_aald, o_aast, o_jald, o_jast, o_dald, o_dast, o_alen, o_castA, o_new, o_newa, o_callv, o_callvN, o_calli, o_calls, o_objinit, o_iret, o_zret, o_fret, o_dret, o_aret, o_vret, o_throw, o_acopy, o_bcopy, o_clone, o_tsw, o_ldcS, o_kval, o_kcoder, o_klen, o_kald, o_tald, o_getSq, o_callk, o_callvH, gl, stl, stl2, pre2, va_rf, Value.category, catS, List.length_cons, List.length_nil, List.map_cons, List.map_nil, List.sum_cons, List.sum_nil, List.take_succ_cons, List.take_zero, List.drop_succ_cons, List.drop_zero, List.reverse_cons, List.reverse_nil, List.nil_append, List.cons_append, true_and, and_true, if_true, Nat.reduceAdd, Nat.reduceLT, Nat.reduceLeDiff, hx]
  refine ⟨⟨x, _, rfl, rfl, hx⟩, sp_spread (by omega) hR ?_ ?_⟩
  · intro S' hc hR' F'
    have hM' := mo_cls hM F'
    have hO' := hO.fr F'
    have hOt := hO'
    obtain ⟨⟨q1, q2, q3⟩, -⟩ := hOt
    simp only [behH, e_L_spread_0, e_L_spread_1, e_L_spread_2, e_L_spread_3, e_L_spread_4, e_L_spread_5, e_L_spread_8, e_L_spread_9, e_L_spread_10, e_L_spread_13, e_L_spread_15, e_L_spread_16, e_L_spread_17, e_L_spread_18, o_const, o_iload, o_aload, o_fload, o_dload, o_istore, o_astore, o_fstore, o_dstore, o_iinc, o_bin, o_div, o_un, o_i2l, o_i2f, o_i2d, o_f2d, o_fdiv, o_ddiv, o_lcmp, o_fcmp, o_dcmp, o_if, o_if2, o_goto, o_dup, o_dupx1, o_dup2, o_pop, o_getI, o_getR, o_putI, o_putR, o_iald, o_iast, o_bald, o_bast, o_zald, o_zast, o_aald, o_aast, o_jald, o_jast, o_dald, o_dast, o_alen, o_castA, o_new, o_newa, o_callv, o_callvN, o_calli, o_calls, o_objinit, o_iret, o_zret, o_fret, o_dret, o_aret, o_vret, o_throw, o_acopy, o_bcopy, o_clone, o_tsw, o_ldcS, o_kval, o_kcoder, o_klen, o_kald, o_tald, o_getSq, o_callk, o_callvH, gl, stl, stl2, pre2, va_rf, Value.category, catS, List.length_cons, List.length_nil, List.map_cons, List.map_nil, List.sum_cons, List.sum_nil, List.take_succ_cons, List.take_zero, List.drop_succ_cons, List.drop_zero, List.reverse_cons, List.reverse_nil, List.nil_append, List.cons_append, true_and, and_true, if_true, Nat.reduceAdd, Nat.reduceLT, Nat.reduceLeDiff, q1, q2, q3, z0, w0]
    exact h _ 0 (by decide) (fun d2 Q2 hq => sp_mSpread (mo_sJ hM') hV (fun S2 _ hMo g6 F2 => hq S2 _ (li_mk (cr_sJ hR') hMo F2 (hB) (o_sJ hO') (by omega) (by omega) (by omega)) g6 (fun _ => by rw [gJ_keep (o_sJ hO') F2, gJ_at])) (fun S2 w e2 hMo g6 F2 => absurd (hc.symm.trans e2) (by decide))) ⟨(mo_sJ hM').1.1, o_sJ hO'⟩
  · intro e
    simp only [behH]
    refine ⟨_, rfl, fun q => ?_⟩
    simp only [e_L_spread_0, e_L_spread_1, e_L_spread_2, e_L_spread_3, e_L_spread_4, e_L_spread_5, e_L_spread_8, e_L_spread_9, e_L_spread_10, e_L_spread_13, e_L_spread_15, e_L_spread_16, e_L_spread_17, e_L_spread_18, o_const, o_iload, o_aload, o_fload, o_dload, o_istore, o_astore, o_fstore, o_dstore, o_iinc, o_bin, o_div, o_un, o_i2l, o_i2f, o_i2d, o_f2d, o_fdiv, o_ddiv, o_lcmp, o_fcmp, o_dcmp, o_if, o_if2, o_goto, o_dup, o_dupx1, o_dup2, o_pop, o_getI, o_getR, o_putI, o_putR, o_iald, o_iast, o_bald, o_bast, o_zald, o_zast, o_aald, o_aast, o_jald, o_jast, o_dald, o_dast, o_alen, o_castA, o_new, o_newa, o_callv, o_callvN, o_calli, o_calls, o_objinit, o_iret, o_zret, o_fret, o_dret, o_aret, o_vret, o_throw, o_acopy, o_bcopy, o_clone, o_tsw, o_ldcS, o_kval, o_kcoder, o_klen, o_kald, o_tald, o_getSq, o_callk, o_callvH, gl, stl, stl2, pre2, va_rf, Value.category, catS, List.length_cons, List.length_nil, List.map_cons, List.map_nil, List.sum_cons, List.sum_nil, List.take_succ_cons, List.take_zero, List.drop_succ_cons, List.drop_zero, List.reverse_cons, List.reverse_nil, List.nil_append, List.cons_append, true_and, and_true, if_true, Nat.reduceAdd, Nat.reduceLT, Nat.reduceLeDiff]
    exact h _ 1 (by decide) (fun d2 Q2 hq => sp_mSpread hMC hV (fun S2 e2 hMo g6 F2 => absurd (e2.symm.trans e) (by decide)) (fun S2 w e2 hMo g6 F2 => hq S2 w (li_mk hRC hMo F2 hB hOC (by omega) (by omega) (by omega)) g6 (fun z => absurd z (by decide)))) ⟨hmC, hOC⟩
theorem pr_undo (hks : ¬ ks 11 = ks 10) (hL : LI S x m ol od ad n) (hn : n < 512) (h : ∀ S1 (k : Nat), k ≤ 3 → MdC ks n_X9_undo [.ref m] S1 x m ol od ad (n + 1) k → MdF S1 m ol od → Q (.inl (some (.int (nI k)))) S1) : WG ks (d + 30) n_L_undo [.ref x, .ref ol] S Q := by
  obtain ⟨M, u, v, tl, T, eA, hn', H, C, wn, Wt, s0, s1, fr, hR, hM, hB, hO, b1, b2, b3⟩ := hL
  obtain ⟨hV, hVH⟩ := cr_VC hR hB
  have hcc : u + 110 ≤ cCM ∧ v + 910000 ≤ cSM := by unfold cCM cSM; omega
  have hx := cr_x hR
  have hrm : Rm S := cr_rm (by omega) hR
  obtain ⟨st, L9, hQ⟩ := cr_q hR
  have hM9 : M ≤ 9800 := by omega
  have hm := hM.1.1
  have z0 : Int32.toNatClampNeg 0 = 0 := by decide
  have w0 : vp_in 0 1 := vp_in_nI (n := 0) (by decide) (by decide)
  have hOs := hO
  obtain ⟨⟨p1, p2, p3⟩, -⟩ := hOs
  have hMC := mo_sC hM
  have hRC := cr_sC hR
  have hOC := hO.fr (Fr.sC S 1 6)
  have hmC := hMC.1.1
  refine ⟨by simp [cat1, Value.category], by show (2 : Nat) ≤ 3; decide, ?_⟩
  show Run ks (WG ks (d + 29)) Q tb_L_undo 0 [some (.ref x), some (.ref ol), none] [] S
  simp only [e_L_undo_0, e_L_undo_1, e_L_undo_2, e_L_undo_3, e_L_undo_6, e_L_undo_7, e_L_undo_8, e_L_undo_11, e_L_undo_12, e_L_undo_13, e_L_undo_14, e_L_undo_15, o_const, o_iload, o_aload, o_fload, o_dload, o_istore, o_astore, o_fstore, o_dstore, o_iinc, o_bin, o_div, o_un, o_i2l, o_i2f, o_i2d, o_f2d, o_fdiv, o_ddiv, o_lcmp, o_fcmp, o_dcmp, o_if, o_if2, o_goto, o_dup, o_dupx1, o_dup2, o_pop, o_getI, o_getR, o_putI, o_putR, o_iald, o_iast, o_bald, o_bast, o_zald, o_zast, o_aald, o_aast, o_jald, o_jast, o_dald, o_dast, o_alen, o_castA, o_new, o_newa, o_callv, o_callvN, o_calli, o_calls, o_objinit, o_iret, o_zret, o_fret, o_dret, o_aret, o_vret, o_throw, o_acopy, o_bcopy, o_clone, o_tsw, o_ldcS, o_kval, o_kcoder, o_klen, o_kald, o_tald, o_getSq, o_callk, o_callvH, gl, stl, stl2, pre2, va_rf, Value.category, catS, List.length_cons, List.length_nil, List.map_cons, List.map_nil, List.sum_cons, List.sum_nil, List.take_succ_cons, List.take_zero, List.drop_succ_cons, List.drop_zero, List.reverse_cons, List.reverse_nil, List.nil_append, List.cons_append, true_and, and_true, if_true, Nat.reduceAdd, Nat.reduceLT, Nat.reduceLeDiff, hx]
  refine ⟨⟨x, _, rfl, rfl, hx⟩, sp_undo (by omega) (by omega) hR ?_ ?_⟩
  · intro S' hc hR' F'
    have hM' := mo_cls hM F'
    have hO' := hO.fr F'
    have hOt := hO'
    obtain ⟨⟨q1, q2, q3⟩, -⟩ := hOt
    simp only [behH, e_L_undo_0, e_L_undo_1, e_L_undo_2, e_L_undo_3, e_L_undo_6, e_L_undo_7, e_L_undo_8, e_L_undo_11, e_L_undo_12, e_L_undo_13, e_L_undo_14, e_L_undo_15, o_const, o_iload, o_aload, o_fload, o_dload, o_istore, o_astore, o_fstore, o_dstore, o_iinc, o_bin, o_div, o_un, o_i2l, o_i2f, o_i2d, o_f2d, o_fdiv, o_ddiv, o_lcmp, o_fcmp, o_dcmp, o_if, o_if2, o_goto, o_dup, o_dupx1, o_dup2, o_pop, o_getI, o_getR, o_putI, o_putR, o_iald, o_iast, o_bald, o_bast, o_zald, o_zast, o_aald, o_aast, o_jald, o_jast, o_dald, o_dast, o_alen, o_castA, o_new, o_newa, o_callv, o_callvN, o_calli, o_calls, o_objinit, o_iret, o_zret, o_fret, o_dret, o_aret, o_vret, o_throw, o_acopy, o_bcopy, o_clone, o_tsw, o_ldcS, o_kval, o_kcoder, o_klen, o_kald, o_tald, o_getSq, o_callk, o_callvH, gl, stl, stl2, pre2, va_rf, Value.category, catS, List.length_cons, List.length_nil, List.map_cons, List.map_nil, List.sum_cons, List.sum_nil, List.take_succ_cons, List.take_zero, List.drop_succ_cons, List.drop_zero, List.reverse_cons, List.reverse_nil, List.nil_append, List.cons_append, true_and, and_true, if_true, Nat.reduceAdd, Nat.reduceLT, Nat.reduceLeDiff, q1, q2, q3, z0, w0]
    exact h _ 0 (by decide) (fun d2 Q2 hq => sp_mUndo (mo_sJ hM') (by omega) hVH (fun S2 _ hMo g6 F2 => hq S2 _ (li_mk (cr_sJ hR') hMo F2 ((⟨hB.2 0 hc, fun i hi => hB.2 (i + 1) (by omega)⟩ : BV (H 0) (hn' - 1) (fun i => H (i + 1)))) (o_sJ hO') (by omega) (by omega) (by omega)) g6 (fun _ => by rw [gJ_keep (o_sJ hO') F2, gJ_at])) (fun S2 w e2 hMo g6 F2 => absurd (e2 ▸ hc) (by decide))) ⟨(mo_sJ hM').1.1, o_sJ hO'⟩
  · intro e
    simp only [behH]
    refine ⟨_, rfl, fun q => ?_⟩
    simp only [e_L_undo_0, e_L_undo_1, e_L_undo_2, e_L_undo_3, e_L_undo_6, e_L_undo_7, e_L_undo_8, e_L_undo_11, e_L_undo_12, e_L_undo_13, e_L_undo_14, e_L_undo_15, o_const, o_iload, o_aload, o_fload, o_dload, o_istore, o_astore, o_fstore, o_dstore, o_iinc, o_bin, o_div, o_un, o_i2l, o_i2f, o_i2d, o_f2d, o_fdiv, o_ddiv, o_lcmp, o_fcmp, o_dcmp, o_if, o_if2, o_goto, o_dup, o_dupx1, o_dup2, o_pop, o_getI, o_getR, o_putI, o_putR, o_iald, o_iast, o_bald, o_bast, o_zald, o_zast, o_aald, o_aast, o_jald, o_jast, o_dald, o_dast, o_alen, o_castA, o_new, o_newa, o_callv, o_callvN, o_calli, o_calls, o_objinit, o_iret, o_zret, o_fret, o_dret, o_aret, o_vret, o_throw, o_acopy, o_bcopy, o_clone, o_tsw, o_ldcS, o_kval, o_kcoder, o_klen, o_kald, o_tald, o_getSq, o_callk, o_callvH, gl, stl, stl2, pre2, va_rf, Value.category, catS, List.length_cons, List.length_nil, List.map_cons, List.map_nil, List.sum_cons, List.sum_nil, List.take_succ_cons, List.take_zero, List.drop_succ_cons, List.drop_zero, List.reverse_cons, List.reverse_nil, List.nil_append, List.cons_append, true_and, and_true, if_true, Nat.reduceAdd, Nat.reduceLT, Nat.reduceLeDiff]
    exact h _ 1 (by decide) (fun d2 Q2 hq => sp_mUndo hMC (by omega) hVH (fun S2 e2 hMo g6 F2 => absurd (e ▸ e2) (by decide)) (fun S2 w e2 hMo g6 F2 => hq S2 w (li_mk hRC hMo F2 hB hOC (by omega) (by omega) (by omega)) g6 (fun z => absurd z (by decide)))) ⟨hmC, hOC⟩
theorem pr_save (hks : ¬ ks 11 = ks 10) (hL : LI S x m ol od ad n) (hn : n < 512) {a : Int32} (h : ∀ S1 (k : Nat), k ≤ 3 → MdC ks n_X9_save [.ref m, .int a] S1 x m ol od ad (n + 1) k → MdF S1 m ol od → Q (.inl (some (.int (nI k)))) S1) : WG ks (d + 30) n_L_save [.ref x, .int a, .ref ol] S Q := by
  obtain ⟨M, u, v, tl, T, eA, hn', H, C, wn, Wt, s0, s1, fr, hR, hM, hB, hO, b1, b2, b3⟩ := hL
  obtain ⟨hV, hVH⟩ := cr_VC hR hB
  have hcc : u + 110 ≤ cCM ∧ v + 910000 ≤ cSM := by unfold cCM cSM; omega
  have hx := cr_x hR
  have hrm : Rm S := cr_rm (by omega) hR
  obtain ⟨st, L9, hQ⟩ := cr_q hR
  have hM9 : M ≤ 9800 := by omega
  have hm := hM.1.1
  have z0 : Int32.toNatClampNeg 0 = 0 := by decide
  have w0 : vp_in 0 1 := vp_in_nI (n := 0) (by decide) (by decide)
  have hOs := hO
  obtain ⟨⟨p1, p2, p3⟩, -⟩ := hOs
  have hMC := mo_sC hM
  have hRC := cr_sC hR
  have hOC := hO.fr (Fr.sC S 1 6)
  have hmC := hMC.1.1
  refine ⟨by simp [cat1, Value.category], by show (3 : Nat) ≤ 4; decide, ?_⟩
  show Run ks (WG ks (d + 29)) Q tb_L_save 0 [some (.ref x), some (.int a), some (.ref ol), none] [] S
  simp only [e_L_save_0, e_L_save_1, e_L_save_2, e_L_save_3, e_L_save_4, e_L_save_7, e_L_save_8, e_L_save_9, e_L_save_12, e_L_save_13, e_L_save_14, e_L_save_15, e_L_save_16, o_const, o_iload, o_aload, o_fload, o_dload, o_istore, o_astore, o_fstore, o_dstore, o_iinc, o_bin, o_div, o_un, o_i2l, o_i2f, o_i2d, o_f2d, o_fdiv, o_ddiv, o_lcmp, o_fcmp, o_dcmp, o_if, o_if2, o_goto, o_dup, o_dupx1, o_dup2, o_pop, o_getI, o_getR, o_putI, o_putR, o_iald, o_iast, o_bald, o_bast, o_zald, o_zast, o_aald, o_aast, o_jald, o_jast, o_dald, o_dast, o_alen, o_castA, o_new, o_newa, o_callv, o_callvN, o_calli, o_calls, o_objinit, o_iret, o_zret, o_fret, o_dret, o_aret, o_vret, o_throw, o_acopy, o_bcopy, o_clone, o_tsw, o_ldcS, o_kval, o_kcoder, o_klen, o_kald, o_tald, o_getSq, o_callk, o_callvH, gl, stl, stl2, pre2, va_rf, Value.category, catS, List.length_cons, List.length_nil, List.map_cons, List.map_nil, List.sum_cons, List.sum_nil, List.take_succ_cons, List.take_zero, List.drop_succ_cons, List.drop_zero, List.reverse_cons, List.reverse_nil, List.nil_append, List.cons_append, true_and, and_true, if_true, Nat.reduceAdd, Nat.reduceLT, Nat.reduceLeDiff, hx]
  refine ⟨⟨x, _, rfl, rfl, hx⟩, sp_save (by omega) hR ?_ ?_ ?_⟩
  · intro S' hc hR' F'
    have hM' := mo_cls hM F'
    have hO' := hO.fr F'
    have hOt := hO'
    obtain ⟨⟨q1, q2, q3⟩, -⟩ := hOt
    simp only [behH, e_L_save_0, e_L_save_1, e_L_save_2, e_L_save_3, e_L_save_4, e_L_save_7, e_L_save_8, e_L_save_9, e_L_save_12, e_L_save_13, e_L_save_14, e_L_save_15, e_L_save_16, o_const, o_iload, o_aload, o_fload, o_dload, o_istore, o_astore, o_fstore, o_dstore, o_iinc, o_bin, o_div, o_un, o_i2l, o_i2f, o_i2d, o_f2d, o_fdiv, o_ddiv, o_lcmp, o_fcmp, o_dcmp, o_if, o_if2, o_goto, o_dup, o_dupx1, o_dup2, o_pop, o_getI, o_getR, o_putI, o_putR, o_iald, o_iast, o_bald, o_bast, o_zald, o_zast, o_aald, o_aast, o_jald, o_jast, o_dald, o_dast, o_alen, o_castA, o_new, o_newa, o_callv, o_callvN, o_calli, o_calls, o_objinit, o_iret, o_zret, o_fret, o_dret, o_aret, o_vret, o_throw, o_acopy, o_bcopy, o_clone, o_tsw, o_ldcS, o_kval, o_kcoder, o_klen, o_kald, o_tald, o_getSq, o_callk, o_callvH, gl, stl, stl2, pre2, va_rf, Value.category, catS, List.length_cons, List.length_nil, List.map_cons, List.map_nil, List.sum_cons, List.sum_nil, List.take_succ_cons, List.take_zero, List.drop_succ_cons, List.drop_zero, List.reverse_cons, List.reverse_nil, List.nil_append, List.cons_append, true_and, and_true, if_true, Nat.reduceAdd, Nat.reduceLT, Nat.reduceLeDiff, q1, q2, q3, z0, w0]
    exact h _ 0 (by decide) (fun d2 Q2 hq => sp_mSave (mo_sJ hM') hV (fun S2 _ hMo g6 F2 => hq S2 _ (li_mk (cr_sJ hR') hMo F2 (hB) (o_sJ hO') (by omega) (by omega) (by omega)) g6 (fun _ => by rw [gJ_keep (o_sJ hO') F2, gJ_at])) (fun S2 e2 hMo g6 F2 => absurd (hc.symm.trans e2) (by decide)) (fun S2 w e2 hMo g6 F2 => absurd (by rw [hc]; exact inI_01.1) e2)) ⟨(mo_sJ hM').1.1, o_sJ hO'⟩
  · intro S' hc hR' F'
    have hM' := mo_cls hM F'
    have hO' := hO.fr F'
    have hOt := hO'
    obtain ⟨⟨q1, q2, q3⟩, -⟩ := hOt
    simp only [behH, e_L_save_0, e_L_save_1, e_L_save_2, e_L_save_3, e_L_save_4, e_L_save_7, e_L_save_8, e_L_save_9, e_L_save_12, e_L_save_13, e_L_save_14, e_L_save_15, e_L_save_16, o_const, o_iload, o_aload, o_fload, o_dload, o_istore, o_astore, o_fstore, o_dstore, o_iinc, o_bin, o_div, o_un, o_i2l, o_i2f, o_i2d, o_f2d, o_fdiv, o_ddiv, o_lcmp, o_fcmp, o_dcmp, o_if, o_if2, o_goto, o_dup, o_dupx1, o_dup2, o_pop, o_getI, o_getR, o_putI, o_putR, o_iald, o_iast, o_bald, o_bast, o_zald, o_zast, o_aald, o_aast, o_jald, o_jast, o_dald, o_dast, o_alen, o_castA, o_new, o_newa, o_callv, o_callvN, o_calli, o_calls, o_objinit, o_iret, o_zret, o_fret, o_dret, o_aret, o_vret, o_throw, o_acopy, o_bcopy, o_clone, o_tsw, o_ldcS, o_kval, o_kcoder, o_klen, o_kald, o_tald, o_getSq, o_callk, o_callvH, gl, stl, stl2, pre2, va_rf, Value.category, catS, List.length_cons, List.length_nil, List.map_cons, List.map_nil, List.sum_cons, List.sum_nil, List.take_succ_cons, List.take_zero, List.drop_succ_cons, List.drop_zero, List.reverse_cons, List.reverse_nil, List.nil_append, List.cons_append, true_and, and_true, if_true, Nat.reduceAdd, Nat.reduceLT, Nat.reduceLeDiff, q1, q2, q3, z0, w0]
    exact h _ 0 (by decide) (fun d2 Q2 hq => sp_mSave (mo_sJ hM') hV (fun S2 e2 hMo g6 F2 => absurd (hc.symm.trans e2) (by decide)) (fun S2 _ hMo g6 F2 => hq S2 _ (li_mk (cr_sJ hR') hMo F2 (hB) (o_sJ hO') (by omega) (by omega) (by omega)) g6 (fun _ => by rw [gJ_keep (o_sJ hO') F2, gJ_at])) (fun S2 w e2 hMo g6 F2 => absurd (by rw [hc]; exact inI_01.2) e2)) ⟨(mo_sJ hM').1.1, o_sJ hO'⟩
  · intro e
    simp only [behH]
    refine ⟨_, rfl, fun q => ?_⟩
    simp only [e_L_save_0, e_L_save_1, e_L_save_2, e_L_save_3, e_L_save_4, e_L_save_7, e_L_save_8, e_L_save_9, e_L_save_12, e_L_save_13, e_L_save_14, e_L_save_15, e_L_save_16, o_const, o_iload, o_aload, o_fload, o_dload, o_istore, o_astore, o_fstore, o_dstore, o_iinc, o_bin, o_div, o_un, o_i2l, o_i2f, o_i2d, o_f2d, o_fdiv, o_ddiv, o_lcmp, o_fcmp, o_dcmp, o_if, o_if2, o_goto, o_dup, o_dupx1, o_dup2, o_pop, o_getI, o_getR, o_putI, o_putR, o_iald, o_iast, o_bald, o_bast, o_zald, o_zast, o_aald, o_aast, o_jald, o_jast, o_dald, o_dast, o_alen, o_castA, o_new, o_newa, o_callv, o_callvN, o_calli, o_calls, o_objinit, o_iret, o_zret, o_fret, o_dret, o_aret, o_vret, o_throw, o_acopy, o_bcopy, o_clone, o_tsw, o_ldcS, o_kval, o_kcoder, o_klen, o_kald, o_tald, o_getSq, o_callk, o_callvH, gl, stl, stl2, pre2, va_rf, Value.category, catS, List.length_cons, List.length_nil, List.map_cons, List.map_nil, List.sum_cons, List.sum_nil, List.take_succ_cons, List.take_zero, List.drop_succ_cons, List.drop_zero, List.reverse_cons, List.reverse_nil, List.nil_append, List.cons_append, true_and, and_true, if_true, Nat.reduceAdd, Nat.reduceLT, Nat.reduceLeDiff]
    exact h _ 1 (by decide) (fun d2 Q2 hq => sp_mSave hMC hV (fun S2 e2 hMo g6 F2 => absurd (by rw [e2]; exact inI_01.1) e) (fun S2 e2 hMo g6 F2 => absurd (by rw [e2]; exact inI_01.2) e) (fun S2 w e2 hMo g6 F2 => hq S2 w (li_mk hRC hMo F2 hB hOC (by omega) (by omega) (by omega)) g6 (fun z => absurd z (by decide)))) ⟨hmC, hOC⟩
theorem pr_restore (hks : ¬ ks 11 = ks 10) (hL : LI S x m ol od ad n) (hn : n < 512) {a : Int32} (h : ∀ S1 (k : Nat), k ≤ 3 → MdC ks n_X9_restore [.ref m, .int a] S1 x m ol od ad (n + 1) k → MdF S1 m ol od → Q (.inl (some (.int (nI k)))) S1) : WG ks (d + 30) n_L_restore [.ref x, .int a, .ref ol] S Q := by
  obtain ⟨M, u, v, tl, T, eA, hn', H, C, wn, Wt, s0, s1, fr, hR, hM, hB, hO, b1, b2, b3⟩ := hL
  obtain ⟨hV, hVH⟩ := cr_VC hR hB
  have hcc : u + 110 ≤ cCM ∧ v + 910000 ≤ cSM := by unfold cCM cSM; omega
  have hx := cr_x hR
  have hrm : Rm S := cr_rm (by omega) hR
  obtain ⟨st, L9, hQ⟩ := cr_q hR
  have hM9 : M ≤ 9800 := by omega
  have hm := hM.1.1
  have z0 : Int32.toNatClampNeg 0 = 0 := by decide
  have w0 : vp_in 0 1 := vp_in_nI (n := 0) (by decide) (by decide)
  have hOs := hO
  obtain ⟨⟨p1, p2, p3⟩, -⟩ := hOs
  have hMC := mo_sC hM
  have hRC := cr_sC hR
  have hOC := hO.fr (Fr.sC S 1 6)
  have hmC := hMC.1.1
  refine ⟨by simp [cat1, Value.category], by show (3 : Nat) ≤ 4; decide, ?_⟩
  show Run ks (WG ks (d + 29)) Q tb_L_restore 0 [some (.ref x), some (.int a), some (.ref ol), none] [] S
  simp only [e_L_restore_0, e_L_restore_1, e_L_restore_2, e_L_restore_3, e_L_restore_4, e_L_restore_7, e_L_restore_8, e_L_restore_9, e_L_restore_12, e_L_restore_13, e_L_restore_14, e_L_restore_15, e_L_restore_16, e_L_restore_17, e_L_restore_18, e_L_restore_19, o_const, o_iload, o_aload, o_fload, o_dload, o_istore, o_astore, o_fstore, o_dstore, o_iinc, o_bin, o_div, o_un, o_i2l, o_i2f, o_i2d, o_f2d, o_fdiv, o_ddiv, o_lcmp, o_fcmp, o_dcmp, o_if, o_if2, o_goto, o_dup, o_dupx1, o_dup2, o_pop, o_getI, o_getR, o_putI, o_putR, o_iald, o_iast, o_bald, o_bast, o_zald, o_zast, o_aald, o_aast, o_jald, o_jast, o_dald, o_dast, o_alen, o_castA, o_new, o_newa, o_callv, o_callvN, o_calli, o_calls, o_objinit, o_iret, o_zret, o_fret, o_dret, o_aret, o_vret, o_throw, o_acopy, o_bcopy, o_clone, o_tsw, o_ldcS, o_kval, o_kcoder, o_klen, o_kald, o_tald, o_getSq, o_callk, o_callvH, gl, stl, stl2, pre2, va_rf, Value.category, catS, List.length_cons, List.length_nil, List.map_cons, List.map_nil, List.sum_cons, List.sum_nil, List.take_succ_cons, List.take_zero, List.drop_succ_cons, List.drop_zero, List.reverse_cons, List.reverse_nil, List.nil_append, List.cons_append, true_and, and_true, if_true, Nat.reduceAdd, Nat.reduceLT, Nat.reduceLeDiff, hx]
  have hss : ∀ {s t : CSl}, (a = 0 ∧ s = s0 ∨ a = 1 ∧ s = s1) → (a = 0 ∧ t = s0 ∨ a = 1 ∧ t = s1) → s = t := by
    intro s t w1 w2
    rcases w1 with ⟨i, j⟩ | ⟨i, j⟩ <;> rcases w2 with ⟨i2, j2⟩ | ⟨i2, j2⟩
    · exact j.trans j2.symm
    · exact absurd (i.symm.trans i2) (by decide)
    · exact absurd (i.symm.trans i2) (by decide)
    · exact j.trans j2.symm
  have hin : ∀ {s : CSl}, (a = 0 ∧ s = s0 ∨ a = 1 ∧ s = s1) → inI a 2 := by
    intro s w1
    rcases w1 with ⟨i, -⟩ | ⟨i, -⟩
    · rw [i]; exact inI_01.1
    · rw [i]; exact inI_01.2
  refine ⟨⟨x, _, rfl, rfl, hx⟩, sp_restore (by omega) (by omega) hR ?_ ?_ ?_⟩
  · intro S' s hs hc hR' F'
    have hM' := mo_cls hM F'
    have hO' := hO.fr F'
    have hOt := hO'
    obtain ⟨⟨q1, q2, q3⟩, -⟩ := hOt
    simp only [behH, e_L_restore_0, e_L_restore_1, e_L_restore_2, e_L_restore_3, e_L_restore_4, e_L_restore_7, e_L_restore_8, e_L_restore_9, e_L_restore_12, e_L_restore_13, e_L_restore_14, e_L_restore_15, e_L_restore_16, e_L_restore_17, e_L_restore_18, e_L_restore_19, o_const, o_iload, o_aload, o_fload, o_dload, o_istore, o_astore, o_fstore, o_dstore, o_iinc, o_bin, o_div, o_un, o_i2l, o_i2f, o_i2d, o_f2d, o_fdiv, o_ddiv, o_lcmp, o_fcmp, o_dcmp, o_if, o_if2, o_goto, o_dup, o_dupx1, o_dup2, o_pop, o_getI, o_getR, o_putI, o_putR, o_iald, o_iast, o_bald, o_bast, o_zald, o_zast, o_aald, o_aast, o_jald, o_jast, o_dald, o_dast, o_alen, o_castA, o_new, o_newa, o_callv, o_callvN, o_calli, o_calls, o_objinit, o_iret, o_zret, o_fret, o_dret, o_aret, o_vret, o_throw, o_acopy, o_bcopy, o_clone, o_tsw, o_ldcS, o_kval, o_kcoder, o_klen, o_kald, o_tald, o_getSq, o_callk, o_callvH, gl, stl, stl2, pre2, va_rf, Value.category, catS, List.length_cons, List.length_nil, List.map_cons, List.map_nil, List.sum_cons, List.sum_nil, List.take_succ_cons, List.take_zero, List.drop_succ_cons, List.drop_zero, List.reverse_cons, List.reverse_nil, List.nil_append, List.cons_append, true_and, and_true, if_true, Nat.reduceAdd, Nat.reduceLT, Nat.reduceLeDiff, q1, q2, q3, z0, w0]
    exact h _ 0 (by decide) (fun d2 Q2 hq => sp_mRestore (mo_sJ hM') (by omega) hV hVH (fun S2 s2 hs2 hc2 hMo g6 F2 => by cases hss hs hs2; exact hq S2 _ (li_mk (cr_sJ hR') hMo F2 (hB.push hB.1) (o_sJ hO') (by omega) (by omega) (by omega)) g6 (fun _ => by rw [gJ_keep (o_sJ hO') F2, gJ_at])) (fun S2 w s2 hs2 e2 hMo g6 F2 => absurd (hss hs hs2 ▸ hc) e2) (fun S2 w e2 hMo g6 F2 => absurd (hin hs) e2)) ⟨(mo_sJ hM').1.1, o_sJ hO'⟩
  · intro s hs e
    simp only [behH]
    refine ⟨_, rfl, fun q => ?_⟩
    simp only [e_L_restore_0, e_L_restore_1, e_L_restore_2, e_L_restore_3, e_L_restore_4, e_L_restore_7, e_L_restore_8, e_L_restore_9, e_L_restore_12, e_L_restore_13, e_L_restore_14, e_L_restore_15, e_L_restore_16, e_L_restore_17, e_L_restore_18, e_L_restore_19, o_const, o_iload, o_aload, o_fload, o_dload, o_istore, o_astore, o_fstore, o_dstore, o_iinc, o_bin, o_div, o_un, o_i2l, o_i2f, o_i2d, o_f2d, o_fdiv, o_ddiv, o_lcmp, o_fcmp, o_dcmp, o_if, o_if2, o_goto, o_dup, o_dupx1, o_dup2, o_pop, o_getI, o_getR, o_putI, o_putR, o_iald, o_iast, o_bald, o_bast, o_zald, o_zast, o_aald, o_aast, o_jald, o_jast, o_dald, o_dast, o_alen, o_castA, o_new, o_newa, o_callv, o_callvN, o_calli, o_calls, o_objinit, o_iret, o_zret, o_fret, o_dret, o_aret, o_vret, o_throw, o_acopy, o_bcopy, o_clone, o_tsw, o_ldcS, o_kval, o_kcoder, o_klen, o_kald, o_tald, o_getSq, o_callk, o_callvH, gl, stl, stl2, pre2, va_rf, Value.category, catS, List.length_cons, List.length_nil, List.map_cons, List.map_nil, List.sum_cons, List.sum_nil, List.take_succ_cons, List.take_zero, List.drop_succ_cons, List.drop_zero, List.reverse_cons, List.reverse_nil, List.nil_append, List.cons_append, true_and, and_true, if_true, Nat.reduceAdd, Nat.reduceLT, Nat.reduceLeDiff]
    exact h _ 2 (by decide) (fun d2 Q2 hq => sp_mRestore hMC (by omega) hV hVH (fun S2 s2 hs2 hc2 hMo g6 F2 => absurd hc2 (hss hs hs2 ▸ e)) (fun S2 w s2 hs2 e2 hMo g6 F2 => hq S2 w (li_mk hRC hMo F2 hB hOC (by omega) (by omega) (by omega)) g6 (fun z => absurd z (by decide))) (fun S2 w e2 hMo g6 F2 => absurd (hin hs) e2)) ⟨hmC, hOC⟩
  · intro e
    simp only [behH]
    refine ⟨_, rfl, fun q => ?_⟩
    simp only [e_L_restore_0, e_L_restore_1, e_L_restore_2, e_L_restore_3, e_L_restore_4, e_L_restore_7, e_L_restore_8, e_L_restore_9, e_L_restore_12, e_L_restore_13, e_L_restore_14, e_L_restore_15, e_L_restore_16, e_L_restore_17, e_L_restore_18, e_L_restore_19, o_const, o_iload, o_aload, o_fload, o_dload, o_istore, o_astore, o_fstore, o_dstore, o_iinc, o_bin, o_div, o_un, o_i2l, o_i2f, o_i2d, o_f2d, o_fdiv, o_ddiv, o_lcmp, o_fcmp, o_dcmp, o_if, o_if2, o_goto, o_dup, o_dupx1, o_dup2, o_pop, o_getI, o_getR, o_putI, o_putR, o_iald, o_iast, o_bald, o_bast, o_zald, o_zast, o_aald, o_aast, o_jald, o_jast, o_dald, o_dast, o_alen, o_castA, o_new, o_newa, o_callv, o_callvN, o_calli, o_calls, o_objinit, o_iret, o_zret, o_fret, o_dret, o_aret, o_vret, o_throw, o_acopy, o_bcopy, o_clone, o_tsw, o_ldcS, o_kval, o_kcoder, o_klen, o_kald, o_tald, o_getSq, o_callk, o_callvH, gl, stl, stl2, pre2, va_rf, Value.category, catS, List.length_cons, List.length_nil, List.map_cons, List.map_nil, List.sum_cons, List.sum_nil, List.take_succ_cons, List.take_zero, List.drop_succ_cons, List.drop_zero, List.reverse_cons, List.reverse_nil, List.nil_append, List.cons_append, true_and, and_true, if_true, Nat.reduceAdd, Nat.reduceLT, Nat.reduceLeDiff]
    exact h _ 1 (by decide) (fun d2 Q2 hq => sp_mRestore hMC (by omega) hV hVH (fun S2 s2 hs2 hc2 hMo g6 F2 => absurd (hin hs2) e) (fun S2 w s2 hs2 e2 hMo g6 F2 => absurd (hin hs2) e) (fun S2 w e2 hMo g6 F2 => hq S2 w (li_mk hRC hMo F2 hB hOC (by omega) (by omega) (by omega)) g6 (fun z => absurd z (by decide)))) ⟨hmC, hOC⟩
theorem pr_load (hks : ¬ ks 11 = ks 10) (hL : LI S x m ol od ad n) (hn : n < 512) {a : Int32} (h : ∀ S1 (k : Nat), k ≤ 3 → MdC ks n_X9_load [.ref m, .int a] S1 x m ol od ad (n + 1) k → MdF S1 m ol od → Q (.inl (some (.int (nI k)))) S1) : WG ks (d + 30) n_L_load [.ref x, .int a, .ref ol] S Q := by
  obtain ⟨M, u, v, tl, T, eA, hn', H, C, wn, Wt, s0, s1, fr, hR, hM, hB, hO, b1, b2, b3⟩ := hL
  obtain ⟨hV, hVH⟩ := cr_VC hR hB
  have hcc : u + 110 ≤ cCM ∧ v + 910000 ≤ cSM := by unfold cCM cSM; omega
  have hx := cr_x hR
  have hrm : Rm S := cr_rm (by omega) hR
  obtain ⟨st, L9, hQ⟩ := cr_q hR
  have hM9 : M ≤ 9800 := by omega
  have hm := hM.1.1
  have z0 : Int32.toNatClampNeg 0 = 0 := by decide
  have w0 : vp_in 0 1 := vp_in_nI (n := 0) (by decide) (by decide)
  have hOs := hO
  obtain ⟨⟨p1, p2, p3⟩, -⟩ := hOs
  have hMC := mo_sC hM
  have hRC := cr_sC hR
  have hOC := hO.fr (Fr.sC S 1 6)
  have hmC := hMC.1.1
  refine ⟨by simp [cat1, Value.category], by show (3 : Nat) ≤ 4; decide, ?_⟩
  show Run ks (WG ks (d + 29)) Q tb_L_load 0 [some (.ref x), some (.int a), some (.ref ol), none] [] S
  simp only [e_L_load_0, e_L_load_1, e_L_load_2, e_L_load_3, e_L_load_4, e_L_load_7, e_L_load_8, e_L_load_9, e_L_load_12, e_L_load_13, e_L_load_14, e_L_load_15, e_L_load_16, o_const, o_iload, o_aload, o_fload, o_dload, o_istore, o_astore, o_fstore, o_dstore, o_iinc, o_bin, o_div, o_un, o_i2l, o_i2f, o_i2d, o_f2d, o_fdiv, o_ddiv, o_lcmp, o_fcmp, o_dcmp, o_if, o_if2, o_goto, o_dup, o_dupx1, o_dup2, o_pop, o_getI, o_getR, o_putI, o_putR, o_iald, o_iast, o_bald, o_bast, o_zald, o_zast, o_aald, o_aast, o_jald, o_jast, o_dald, o_dast, o_alen, o_castA, o_new, o_newa, o_callv, o_callvN, o_calli, o_calls, o_objinit, o_iret, o_zret, o_fret, o_dret, o_aret, o_vret, o_throw, o_acopy, o_bcopy, o_clone, o_tsw, o_ldcS, o_kval, o_kcoder, o_klen, o_kald, o_tald, o_getSq, o_callk, o_callvH, gl, stl, stl2, pre2, va_rf, Value.category, catS, List.length_cons, List.length_nil, List.map_cons, List.map_nil, List.sum_cons, List.sum_nil, List.take_succ_cons, List.take_zero, List.drop_succ_cons, List.drop_zero, List.reverse_cons, List.reverse_nil, List.nil_append, List.cons_append, true_and, and_true, if_true, Nat.reduceAdd, Nat.reduceLT, Nat.reduceLeDiff, hx]
  obtain ⟨txq, -, -, -, -, -, hTx, -⟩ := cr_tx hR
  refine ⟨⟨x, _, rfl, rfl, hx⟩, sp_load (by omega) (by omega) hR ?_ ?_ ?_⟩
  · intro S' c q0 ha hp hR' F'
    have hM' := mo_cls hM F'
    have hO' := hO.fr F'
    have hOt := hO'
    obtain ⟨⟨q1, q2, q3⟩, -⟩ := hOt
    simp only [behH, e_L_load_0, e_L_load_1, e_L_load_2, e_L_load_3, e_L_load_4, e_L_load_7, e_L_load_8, e_L_load_9, e_L_load_12, e_L_load_13, e_L_load_14, e_L_load_15, e_L_load_16, o_const, o_iload, o_aload, o_fload, o_dload, o_istore, o_astore, o_fstore, o_dstore, o_iinc, o_bin, o_div, o_un, o_i2l, o_i2f, o_i2d, o_f2d, o_fdiv, o_ddiv, o_lcmp, o_fcmp, o_dcmp, o_if, o_if2, o_goto, o_dup, o_dupx1, o_dup2, o_pop, o_getI, o_getR, o_putI, o_putR, o_iald, o_iast, o_bald, o_bast, o_zald, o_zast, o_aald, o_aast, o_jald, o_jast, o_dald, o_dast, o_alen, o_castA, o_new, o_newa, o_callv, o_callvN, o_calli, o_calls, o_objinit, o_iret, o_zret, o_fret, o_dret, o_aret, o_vret, o_throw, o_acopy, o_bcopy, o_clone, o_tsw, o_ldcS, o_kval, o_kcoder, o_klen, o_kald, o_tald, o_getSq, o_callk, o_callvH, gl, stl, stl2, pre2, va_rf, Value.category, catS, List.length_cons, List.length_nil, List.map_cons, List.map_nil, List.sum_cons, List.sum_nil, List.take_succ_cons, List.take_zero, List.drop_succ_cons, List.drop_zero, List.reverse_cons, List.reverse_nil, List.nil_append, List.cons_append, true_and, and_true, if_true, Nat.reduceAdd, Nat.reduceLT, Nat.reduceLeDiff, q1, q2, q3, z0, w0]
    exact h _ 0 (by decide) (fun d2 Q2 hq => sp_mLoad (mo_sJ hM') (by omega) hV hVH hTx (fun S2 c2 q2 ha2 hp2 hMo g6 F2 => by cases hp.symm.trans hp2; exact hq S2 _ (li_mk (cr_sJ hR') hMo F2 (hB) (o_sJ hO') (by omega) (by omega) (by omega)) g6 (fun _ => by rw [gJ_keep (o_sJ hO') F2, gJ_at])) (fun S2 A2 ha2 hp2 hMo g6 F2 => by cases hp.symm.trans hp2) (fun S2 w e2 hMo g6 F2 => absurd ha e2)) ⟨(mo_sJ hM').1.1, o_sJ hO'⟩
  · intro S' A ha hp hR' F'
    have hM' := mo_cls hM F'
    have hO' := hO.fr F'
    have hOt := hO'
    obtain ⟨⟨q1, q2, q3⟩, -⟩ := hOt
    simp only [behH, e_L_load_0, e_L_load_1, e_L_load_2, e_L_load_3, e_L_load_4, e_L_load_7, e_L_load_8, e_L_load_9, e_L_load_12, e_L_load_13, e_L_load_14, e_L_load_15, e_L_load_16, o_const, o_iload, o_aload, o_fload, o_dload, o_istore, o_astore, o_fstore, o_dstore, o_iinc, o_bin, o_div, o_un, o_i2l, o_i2f, o_i2d, o_f2d, o_fdiv, o_ddiv, o_lcmp, o_fcmp, o_dcmp, o_if, o_if2, o_goto, o_dup, o_dupx1, o_dup2, o_pop, o_getI, o_getR, o_putI, o_putR, o_iald, o_iast, o_bald, o_bast, o_zald, o_zast, o_aald, o_aast, o_jald, o_jast, o_dald, o_dast, o_alen, o_castA, o_new, o_newa, o_callv, o_callvN, o_calli, o_calls, o_objinit, o_iret, o_zret, o_fret, o_dret, o_aret, o_vret, o_throw, o_acopy, o_bcopy, o_clone, o_tsw, o_ldcS, o_kval, o_kcoder, o_klen, o_kald, o_tald, o_getSq, o_callk, o_callvH, gl, stl, stl2, pre2, va_rf, Value.category, catS, List.length_cons, List.length_nil, List.map_cons, List.map_nil, List.sum_cons, List.sum_nil, List.take_succ_cons, List.take_zero, List.drop_succ_cons, List.drop_zero, List.reverse_cons, List.reverse_nil, List.nil_append, List.cons_append, true_and, and_true, if_true, Nat.reduceAdd, Nat.reduceLT, Nat.reduceLeDiff, q1, q2, q3, z0, w0]
    exact h _ 0 (by decide) (fun d2 Q2 hq => sp_mLoad (mo_sJ hM') (by omega) hV hVH hTx (fun S2 c2 q2 ha2 hp2 hMo g6 F2 => by cases hp.symm.trans hp2) (fun S2 A2 ha2 hp2 hMo g6 F2 => by cases hp.symm.trans hp2; exact hq S2 _ (li_mk (cr_sJ hR') hMo F2 ((hB.push (fun b9 hb9 => absurd hb9 (Nat.not_lt_zero b9)))) (o_sJ hO') (by omega) (by omega) (by omega)) g6 (fun _ => by rw [gJ_keep (o_sJ hO') F2, gJ_at])) (fun S2 w e2 hMo g6 F2 => absurd ha e2)) ⟨(mo_sJ hM').1.1, o_sJ hO'⟩
  · intro e
    simp only [behH]
    refine ⟨_, rfl, fun q => ?_⟩
    simp only [e_L_load_0, e_L_load_1, e_L_load_2, e_L_load_3, e_L_load_4, e_L_load_7, e_L_load_8, e_L_load_9, e_L_load_12, e_L_load_13, e_L_load_14, e_L_load_15, e_L_load_16, o_const, o_iload, o_aload, o_fload, o_dload, o_istore, o_astore, o_fstore, o_dstore, o_iinc, o_bin, o_div, o_un, o_i2l, o_i2f, o_i2d, o_f2d, o_fdiv, o_ddiv, o_lcmp, o_fcmp, o_dcmp, o_if, o_if2, o_goto, o_dup, o_dupx1, o_dup2, o_pop, o_getI, o_getR, o_putI, o_putR, o_iald, o_iast, o_bald, o_bast, o_zald, o_zast, o_aald, o_aast, o_jald, o_jast, o_dald, o_dast, o_alen, o_castA, o_new, o_newa, o_callv, o_callvN, o_calli, o_calls, o_objinit, o_iret, o_zret, o_fret, o_dret, o_aret, o_vret, o_throw, o_acopy, o_bcopy, o_clone, o_tsw, o_ldcS, o_kval, o_kcoder, o_klen, o_kald, o_tald, o_getSq, o_callk, o_callvH, gl, stl, stl2, pre2, va_rf, Value.category, catS, List.length_cons, List.length_nil, List.map_cons, List.map_nil, List.sum_cons, List.sum_nil, List.take_succ_cons, List.take_zero, List.drop_succ_cons, List.drop_zero, List.reverse_cons, List.reverse_nil, List.nil_append, List.cons_append, true_and, and_true, if_true, Nat.reduceAdd, Nat.reduceLT, Nat.reduceLeDiff]
    exact h _ 1 (by decide) (fun d2 Q2 hq => sp_mLoad hMC (by omega) hV hVH hTx (fun S2 c2 q2 ha2 hp2 hMo g6 F2 => absurd ha2 e) (fun S2 A2 ha2 hp2 hMo g6 F2 => absurd ha2 e) (fun S2 w e2 hMo g6 F2 => hq S2 w (li_mk hRC hMo F2 hB hOC (by omega) (by omega) (by omega)) g6 (fun z => absurd z (by decide)))) ⟨hmC, hOC⟩
theorem pr_average (hks : ¬ ks 11 = ks 10) (hL : LI S x m ol od ad n) (hn : n < 512) {a b : Int32} (h : ∀ S1 (k : Nat), k ≤ 3 → MdA ks n_X9_average [.ref m, .int a, .int b] S1 x m ol od ad (n + 1) k → MdF S1 m ol od → Q (.inl (some (.int (nI k)))) S1) : WG ks (d + 30) n_L_average [.ref x, .int a, .int b, .ref od] S Q := by
  obtain ⟨M, u, v, tl, T, eA, hn', H, C, wn, Wt, s0, s1, fr, hR, hM, hB, hO, b1, b2, b3⟩ := hL
  obtain ⟨hV, hVH⟩ := cr_VC hR hB
  have hcc : u + 110 ≤ cCM ∧ v + 910000 ≤ cSM := by unfold cCM cSM; omega
  have hx := cr_x hR
  have hrm : Rm S := cr_rm (by omega) hR
  obtain ⟨st, L9, hQ⟩ := cr_q hR
  have hM9 : M ≤ 9800 := by omega
  have hm := hM.1.1
  have z0 : Int32.toNatClampNeg 0 = 0 := by decide
  have w0 : vp_in 0 1 := vp_in_nI (n := 0) (by decide) (by decide)
  have hOs := hO
  obtain ⟨-, p1, p2, p3⟩ := hOs
  have hMC := mo_sC hM
  have hRC := cr_sC hR
  have hOC := hO.fr (Fr.sC S 1 6)
  have hmC := hMC.1.1
  refine ⟨by simp [cat1, Value.category], by show (4 : Nat) ≤ 5; decide, ?_⟩
  show Run ks (WG ks (d + 29)) Q tb_L_average 0 [some (.ref x), some (.int a), some (.int b), some (.ref od), none] [] S
  simp only [e_L_average_0, e_L_average_1, e_L_average_2, e_L_average_3, e_L_average_4, e_L_average_5, e_L_average_8, e_L_average_9, e_L_average_10, e_L_average_13, e_L_average_15, e_L_average_16, e_L_average_17, e_L_average_18, o_const, o_iload, o_aload, o_fload, o_dload, o_istore, o_astore, o_fstore, o_dstore, o_iinc, o_bin, o_div, o_un, o_i2l, o_i2f, o_i2d, o_f2d, o_fdiv, o_ddiv, o_lcmp, o_fcmp, o_dcmp, o_if, o_if2, o_goto, o_dup, o_dupx1, o_dup2, o_pop, o_getI, o_getR, o_putI, o_putR, o_iald, o_iast, o_bald, o_bast, o_zald, o_zast, o_aald, o_aast, o_jald, o_jast, o_dald, o_dast, o_alen, o_castA, o_new, o_newa, o_callv, o_callvN, o_calli, o_calls, o_objinit, o_iret, o_zret, o_fret, o_dret, o_aret, o_vret, o_throw, o_acopy, o_bcopy, o_clone, o_tsw, o_ldcS, o_kval, o_kcoder, o_klen, o_kald, o_tald, o_getSq, o_callk, o_callvH, gl, stl, stl2, pre2, va_rf, Value.category, catS, List.length_cons, List.length_nil, List.map_cons, List.map_nil, List.sum_cons, List.sum_nil, List.take_succ_cons, List.take_zero, List.drop_succ_cons, List.drop_zero, List.reverse_cons, List.reverse_nil, List.nil_append, List.cons_append, true_and, and_true, if_true, Nat.reduceAdd, Nat.reduceLT, Nat.reduceLeDiff, hx]
  refine ⟨⟨x, _, rfl, rfl, hx⟩, sp_average (by omega) hM9 hR ?_ ?_⟩
  · intro S' Ds hc hR' F' hnan
    have hM' := mo_cls hM F'
    have hO' := hO.fr F'
    have hOt := hO'
    obtain ⟨-, q1, q2, q3⟩ := hOt
    have hv := nan_f2d (nan_avg' (t := nI (avg C a.toNatClampNeg Ds b.toNatClampNeg).2) hc)
    simp only [behH, e_L_average_0, e_L_average_1, e_L_average_2, e_L_average_3, e_L_average_4, e_L_average_5, e_L_average_8, e_L_average_9, e_L_average_10, e_L_average_13, e_L_average_15, e_L_average_16, e_L_average_17, e_L_average_18, o_const, o_iload, o_aload, o_fload, o_dload, o_istore, o_astore, o_fstore, o_dstore, o_iinc, o_bin, o_div, o_un, o_i2l, o_i2f, o_i2d, o_f2d, o_fdiv, o_ddiv, o_lcmp, o_fcmp, o_dcmp, o_if, o_if2, o_goto, o_dup, o_dupx1, o_dup2, o_pop, o_getI, o_getR, o_putI, o_putR, o_iald, o_iast, o_bald, o_bast, o_zald, o_zast, o_aald, o_aast, o_jald, o_jast, o_dald, o_dast, o_alen, o_castA, o_new, o_newa, o_callv, o_callvN, o_calli, o_calls, o_objinit, o_iret, o_zret, o_fret, o_dret, o_aret, o_vret, o_throw, o_acopy, o_bcopy, o_clone, o_tsw, o_ldcS, o_kval, o_kcoder, o_klen, o_kald, o_tald, o_getSq, o_callk, o_callvH, gl, stl, stl2, pre2, va_rf, Value.category, catS, List.length_cons, List.length_nil, List.map_cons, List.map_nil, List.sum_cons, List.sum_nil, List.take_succ_cons, List.take_zero, List.drop_succ_cons, List.drop_zero, List.reverse_cons, List.reverse_nil, List.nil_append, List.cons_append, true_and, and_true, if_true, Nat.reduceAdd, Nat.reduceLT, Nat.reduceLeDiff, q1, q2, q3, z0, w0]
    refine ⟨hv, ?_⟩
    exact h _ 0 (by decide) (fun d2 Q2 hq => sp_mAverage (mo_sD hM') hM9 hV hVH Ds (fun _ => hnan) (fun S2 _ hMo g6 F2 => hq S2 _ (li_mk (cr_sD hR') hMo F2 (hB.push (avg_V (n := 0) hV _).2.2.2) (o_sD hO') (by omega) (by omega) (by omega)) g6 (fun _ => ⟨by rw [gD_keep (o_sD hO') F2, gD_at], nan_avg' hc⟩)) (fun S2 e hMo g6 F2 => absurd (hc.symm.trans e) (by decide))) ⟨(mo_sD hM').1.1, o_sD hO'⟩
  · intro e
    simp only [behH]
    refine ⟨_, rfl, fun q => ?_⟩
    simp only [e_L_average_0, e_L_average_1, e_L_average_2, e_L_average_3, e_L_average_4, e_L_average_5, e_L_average_8, e_L_average_9, e_L_average_10, e_L_average_13, e_L_average_15, e_L_average_16, e_L_average_17, e_L_average_18, o_const, o_iload, o_aload, o_fload, o_dload, o_istore, o_astore, o_fstore, o_dstore, o_iinc, o_bin, o_div, o_un, o_i2l, o_i2f, o_i2d, o_f2d, o_fdiv, o_ddiv, o_lcmp, o_fcmp, o_dcmp, o_if, o_if2, o_goto, o_dup, o_dupx1, o_dup2, o_pop, o_getI, o_getR, o_putI, o_putR, o_iald, o_iast, o_bald, o_bast, o_zald, o_zast, o_aald, o_aast, o_jald, o_jast, o_dald, o_dast, o_alen, o_castA, o_new, o_newa, o_callv, o_callvN, o_calli, o_calls, o_objinit, o_iret, o_zret, o_fret, o_dret, o_aret, o_vret, o_throw, o_acopy, o_bcopy, o_clone, o_tsw, o_ldcS, o_kval, o_kcoder, o_klen, o_kald, o_tald, o_getSq, o_callk, o_callvH, gl, stl, stl2, pre2, va_rf, Value.category, catS, List.length_cons, List.length_nil, List.map_cons, List.map_nil, List.sum_cons, List.sum_nil, List.take_succ_cons, List.take_zero, List.drop_succ_cons, List.drop_zero, List.reverse_cons, List.reverse_nil, List.nil_append, List.cons_append, true_and, and_true, if_true, Nat.reduceAdd, Nat.reduceLT, Nat.reduceLeDiff]
    exact h _ 1 (by decide) (fun d2 Q2 hq => sp_mAverage hMC hM9 hV hVH (fun _ _ => 0) (fun e2 => absurd (e2.symm.trans e) (by decide)) (fun S2 e2 hMo g6 F2 => absurd (e2.symm.trans e) (by decide)) (fun S2 e2 hMo g6 F2 => hq S2 _ (li_mk hRC hMo F2 hB hOC (by omega) (by omega) (by omega)) g6 (fun z => absurd z (by decide)))) ⟨hmC, hOC⟩
end PRS2
