/-! THE RAMP of a state -/
def rgN (C : CSt) : Nat := sg (aAc (sSet C)) 0 (aWm (sSet C))
def rcd (C : CSt) (x : Nat) : Nat := cvC C (qst (sSet C) (nI x) (-1) 0 (aWm (sSet C))).2
theorem sg_le {f : Nat → Nat} {K i : Nat} : ∀ m, (∀ j, j < m → f (i + j) ≤ K) → sg f i m ≤ K * m := by
  intro m h
  induction m with
  | zero => exact Nat.zero_le _
  | succ m ih =>
    have h1 := ih (fun j hj => h j (by omega))
    have h2 := h m (by omega)
    simp only [sg, Nat.mul_succ]; omega
theorem rgN_le {C : CSt} (h : SetV (sSet C)) : rgN C ≤ 5120 := by
  have h1 := sg_le (f := aAc (sSet C)) (K := 512) (i := 0) (aWm (sSet C)) (fun j hj => by rw [Nat.zero_add]; exact (h.2.2.1 j hj).2.2.2.1)
  have := h.2.1.2
  unfold rgN; omega
theorem cvC_le {C : CSt} (h : SetV (sSet C)) (hT : ∀ k, k < aWm (sSet C) → sTab C k ≤ 1023) (b : Int32) : cvC C b ≤ 10230 := by
  have h2 := h.2.1.2
  have h1 := sg_le (f := cdF (sTab C) b) (K := 1023) (i := 0) (aWm (sSet C)) (fun j hj => by
    have := hT (0 + j) (by rw [Nat.zero_add]; exact hj)
    unfold cdF; split <;> omega)
  unfold cvC; omega
section SPS
variable {ks : Nat → Nat} {d : Nat} {Q : QP} {S : M9} {p ck wk st B L : Nat} {C : CSt}
theorem sp_rampInit (hp : p ∈ gL S) (hk : gK S p = 4) (h17 : 17 ≤ ck ∧ 17 ≤ wk ∧ ¬ ck = wk ∧ ck < 100 ∧ wk < 100 ∧ 60 ≤ ck ∧ 60 ≤ wk) (hc : gC S + 2 ≤ cCM) (hz : gZ S + 15352 ≤ cSM)
    (h : ∀ S', RampW S' p ck wk → Fr S S' (fun t a => t = 4 ∧ a = p) 2 15352 → Q (.inl none) S') : WG ks (d + 1) n_X2_init [.ref p] S Q := by
  refine ⟨by simp [cat1, Value.category], by show (1 : Nat) ≤ 1; decide, ?_⟩
  show Run ks (WG ks d) Q tb_X2_init 0 [some (.ref p)] [] S
  have e5 : Int32.toNatClampNeg 5121 = 5121 := by decide
  have e6 : Int32.toNatClampNeg 10231 = 10231 := by decide
  simp only [e_X2_init_0, e_X2_init_1, e_X2_init_4, e_X2_init_5, e_X2_init_8, e_X2_init_13, e_X2_init_14, e_X2_init_17, e_X2_init_22, e_X2_init_23, e_X2_init_24, e_X2_init_27, e_X2_init_28, e_X2_init_29, e_X2_init_32, e_X2_init_33, e_X2_init_34, e_X2_init_37, e_X2_init_38, e_X2_init_39, e_X2_init_42, o_const, o_iload, o_aload, o_fload, o_dload, o_istore, o_astore, o_fstore, o_dstore, o_iinc, o_bin, o_div, o_un, o_i2l, o_i2f, o_i2d, o_f2d, o_fdiv, o_ddiv, o_lcmp, o_fcmp, o_dcmp, o_if, o_if2, o_goto, o_dup, o_dupx1, o_dup2, o_pop, o_getI, o_getR, o_putI, o_putR, o_iald, o_iast, o_bald, o_bast, o_zald, o_zast, o_aald, o_aast, o_jald, o_jast, o_dald, o_dast, o_alen, o_castA, o_new, o_newa, o_callv, o_callvN, o_calli, o_calls, o_objinit, o_iret, o_zret, o_fret, o_dret, o_aret, o_vret, o_throw, o_acopy, o_bcopy, o_clone, o_tsw, o_ldcS, o_kval, o_kcoder, o_klen, o_kald, o_tald, o_getSq, o_callk, o_callvH, gl, stl, stl2, pre2, va_rf, Value.category, catS, List.length_cons, List.length_nil, List.map_cons, List.map_nil, List.sum_cons, List.sum_nil, List.take_succ_cons, List.take_zero, List.drop_succ_cons, List.drop_zero, List.reverse_cons, List.reverse_nil, List.nil_append, List.cons_append, true_and, and_true, if_true, Nat.reduceAdd, Nat.reduceLT, Nat.reduceLeDiff, hp, hk, e5]
  refine ⟨by decide, by omega, by omega, ck, h17.1, fun a ha => ?_⟩
  have F1 := Fr.nW S ck a 5121 5121 ha
  have A1 := ArrR.nw (t := ck) (n := 5121) (z := 5121) ha
  obtain ⟨q1, q2, -⟩ := F1.1 p hp
  generalize nW S ck a 5121 5121 = S1 at F1 A1 q1 q2 ⊢
  rw [e_X2_init_10]
  simp only [e_X2_init_0, e_X2_init_1, e_X2_init_4, e_X2_init_5, e_X2_init_8, e_X2_init_10, e_X2_init_13, e_X2_init_14, e_X2_init_17, e_X2_init_22, e_X2_init_23, e_X2_init_24, e_X2_init_27, e_X2_init_28, e_X2_init_29, e_X2_init_32, e_X2_init_33, e_X2_init_34, e_X2_init_37, e_X2_init_38, e_X2_init_39, e_X2_init_42, o_const, o_iload, o_aload, o_fload, o_dload, o_istore, o_astore, o_fstore, o_dstore, o_iinc, o_bin, o_div, o_un, o_i2l, o_i2f, o_i2d, o_f2d, o_fdiv, o_ddiv, o_lcmp, o_fcmp, o_dcmp, o_if, o_if2, o_goto, o_dup, o_dupx1, o_dup2, o_pop, o_getI, o_getR, o_putI, o_putR, o_iald, o_iast, o_bald, o_bast, o_zald, o_zast, o_aald, o_aast, o_jald, o_jast, o_dald, o_dast, o_alen, o_castA, o_new, o_newa, o_callv, o_callvN, o_calli, o_calls, o_objinit, o_iret, o_zret, o_fret, o_dret, o_aret, o_vret, o_throw, o_acopy, o_bcopy, o_clone, o_tsw, o_ldcS, o_kval, o_kcoder, o_klen, o_kald, o_tald, o_getSq, o_callk, o_callvH, gl, stl, stl2, pre2, va_rf, Value.category, catS, List.length_cons, List.length_nil, List.map_cons, List.map_nil, List.sum_cons, List.sum_nil, List.take_succ_cons, List.take_zero, List.drop_succ_cons, List.drop_zero, List.reverse_cons, List.reverse_nil, List.nil_append, List.cons_append, true_and, and_true, if_true, Nat.reduceAdd, Nat.reduceLT, Nat.reduceLeDiff, q1, q2.trans hk, gL_sW, gL_sI, gL_sR, gL_sC, gL_nW, gK_sW, gK_sI, gK_sR, gK_sC, gK_nW, gN_sW, gN_sI, gN_sR, gN_sC, gN_nW, gC_sW, gC_sI, gC_sR, gC_sC, gC_nW, gZ_sW, gZ_sI, gZ_sR, gZ_sC, gZ_nW, e6]
  refine ⟨by decide, by have := F1.2.2.1; omega, by have := F1.2.2.2; omega, wk, h17.2.1, fun w hw => ?_⟩
  have F2 := fr_pn (S := S1) (t := 4) (a := p) (k := 0) (v := some a) (t' := wk) (n := 10231) (z := 10231) hw
  have A2 := ArrR.nw (S := sR S1 4 p 0 (some a)) (t := wk) (n := 10231) (z := 10231) hw
  have A12 := A1.fr F2 (fun u => by omega)
  obtain ⟨p1, p2, -⟩ := F2.1 p q1
  have G0 : gR (nW (sR S1 4 p 0 (some a)) wk w 10231 10231) 4 p 0 = some a := by rw [gR_nWk, if_neg (fun u => by omega), gR_sRk, if_pos ⟨rfl, rfl, rfl⟩]
  have F12 := F1.trans F2
  generalize nW (sR S1 4 p 0 (some a)) wk w 10231 10231 = S2 at F2 A2 A12 p1 p2 G0 F12 ⊢
  rw [e_X2_init_19]
  simp only [e_X2_init_0, e_X2_init_1, e_X2_init_4, e_X2_init_5, e_X2_init_8, e_X2_init_10, e_X2_init_13, e_X2_init_14, e_X2_init_17, e_X2_init_19, e_X2_init_22, e_X2_init_23, e_X2_init_24, e_X2_init_27, e_X2_init_28, e_X2_init_29, e_X2_init_32, e_X2_init_33, e_X2_init_34, e_X2_init_37, e_X2_init_38, e_X2_init_39, e_X2_init_42, o_const, o_iload, o_aload, o_fload, o_dload, o_istore, o_astore, o_fstore, o_dstore, o_iinc, o_bin, o_div, o_un, o_i2l, o_i2f, o_i2d, o_f2d, o_fdiv, o_ddiv, o_lcmp, o_fcmp, o_dcmp, o_if, o_if2, o_goto, o_dup, o_dupx1, o_dup2, o_pop, o_getI, o_getR, o_putI, o_putR, o_iald, o_iast, o_bald, o_bast, o_zald, o_zast, o_aald, o_aast, o_jald, o_jast, o_dald, o_dast, o_alen, o_castA, o_new, o_newa, o_callv, o_callvN, o_calli, o_calls, o_objinit, o_iret, o_zret, o_fret, o_dret, o_aret, o_vret, o_throw, o_acopy, o_bcopy, o_clone, o_tsw, o_ldcS, o_kval, o_kcoder, o_klen, o_kald, o_tald, o_getSq, o_callk, o_callvH, gl, stl, stl2, pre2, va_rf, Value.category, catS, List.length_cons, List.length_nil, List.map_cons, List.map_nil, List.sum_cons, List.sum_nil, List.take_succ_cons, List.take_zero, List.drop_succ_cons, List.drop_zero, List.reverse_cons, List.reverse_nil, List.nil_append, List.cons_append, true_and, and_true, if_true, Nat.reduceAdd, Nat.reduceLT, Nat.reduceLeDiff, p1, p2.trans (q2.trans hk), gL_sW, gL_sI, gL_sR, gL_sC, gL_nW, gK_sW, gK_sI, gK_sR, gK_sC, gK_nW, gN_sW, gN_sI, gN_sR, gN_sC, gN_nW, gC_sW, gC_sI, gC_sR, gC_sC, gC_nW, gZ_sW, gZ_sI, gZ_sR, gZ_sC, gZ_nW, narI]
  have F3 := (Fr.sR S2 4 p 1 (some w)).trans ((Fr.sI (sR S2 4 p 1 (some w)) 4 p 2 0).trans ((Fr.sI (sI (sR S2 4 p 1 (some w)) 4 p 2 0) 4 p 3 0).trans ((Fr.sI (sI (sI (sR S2 4 p 1 (some w)) 4 p 2 0) 4 p 3 0) 4 p 4 0).trans (Fr.sI (sI (sI (sI (sR S2 4 p 1 (some w)) 4 p 2 0) 4 p 3 0) 4 p 4 0) 4 p 5 0))))
  obtain ⟨a1, a2, a3, -⟩ := A12
  obtain ⟨w1, w2, w3, -⟩ := A2
  refine h _ ⟨a, w, (F3.1 p p1).1, (F3.1 p p1).2.1.trans (p2.trans (q2.trans hk)), ?_, ?_, ⟨(F3.1 a a1).1, (F3.1 a a1).2.1.trans a2, (F3.1 a a1).2.2.trans a3⟩, ⟨(F3.1 w w1).1, (F3.1 w w1).2.1.trans w2, (F3.1 w w1).2.2.trans w3⟩, h17⟩ ((F12.trans F3).mono (fun t a _ u => ?_) (by decide) (by decide))
  · rw [gR_sI, gR_sI, gR_sI, gR_sI, gR_sRk, if_neg (fun w => absurd w.2.2 (by decide))]; exact G0
  · rw [gR_sI, gR_sI, gR_sI, gR_sI, gR_sRk, if_pos ⟨rfl, rfl, rfl⟩]
  · rcases u with (u | u) | u | u | u | u | u
    · exact u.elim
    all_goals exact u
theorem rampA_st {p ck wk t a st B : Nat} (h : 17 ≤ ck ∧ 17 ≤ wk ∧ ¬ ck = wk ∧ ck < 100 ∧ wk < 100 ∧ 60 ≤ ck ∧ 60 ≤ wk) (hB : 100 ≤ B) (hA : StA S st B t a) : ¬ RampA p ck wk t a := by
  intro w
  rcases w with w | w | w <;> rcases hA with u | u | u | u <;> omega
theorem StateR.ramp {S' : M9} (hR : StateR S st B L C) (h : 17 ≤ ck ∧ 17 ≤ wk ∧ ¬ ck = wk ∧ ck < 100 ∧ wk < 100 ∧ 60 ≤ ck ∧ 60 ≤ wk) {c z : Nat} (hF : Fr S S' (RampA p ck wk) c z) : StateR S' st B L C := by
  have hB : 100 ≤ B := by obtain ⟨_, _, _, _, _, _, _, _, _, _, _, _, _, _, _, _, _, _, _, hB⟩ := hR; exact hB
  exact hR.fr hF (rampA_st (S := S) h hB (Or.inl ⟨rfl, rfl⟩)) (fun t a w => rampA_st h hB w) (fun a w => by rcases w with w | w | w <;> omega) (fun t a h1 h2 w => by rcases w with w | w | w <;> omega)
theorem sp_rampRun_lp (hV : SetV (sSet C)) (hT : ∀ k, k < aWm (sSet C) → sTab C k ≤ 1023) (h : ∀ S', RampR S' p ck wk (rgN C) (rcd C) → Fr S S' (RampA p ck wk) 0 0 → Q (.inl none) S') :
    ∀ r m S', m + r = rgN C + 1 → RampQ S' p ck wk (rgN C) m m (rcd C) → StateR S' st B L C → Fr S S' (RampA p ck wk) 0 0 → Run ks (WG ks (d + 3)) Q tb_X2_run 45 [some (.ref p), some (.ref st), some (.int (nI m))] [] S' := by
  intro r
  have hrg := rgN_le hV
  induction r with
  | zero =>
    intro m S' hm hQ hR hF
    have hQ0 := hQ
    obtain ⟨a, w, h1, h2, h3, h4, h5, h6, h7, h8, ⟨a1, a2, a3, a4⟩, ⟨w1, w2, w3, w4⟩, ⟨v1, v2, v3, v4⟩, x⟩ := hQ0
    have e : m = rgN C + 1 := by omega
    subst e
    rw [e_X2_run_45]
    simp only [e_X2_run_0, e_X2_run_1, e_X2_run_2, e_X2_run_5, e_X2_run_6, e_X2_run_9, e_X2_run_12, e_X2_run_15, e_X2_run_18, e_X2_run_19, e_X2_run_22, e_X2_run_23, e_X2_run_26, e_X2_run_27, e_X2_run_30, e_X2_run_33, e_X2_run_34, e_X2_run_35, e_X2_run_38, e_X2_run_39, e_X2_run_40, e_X2_run_43, e_X2_run_44, e_X2_run_46, e_X2_run_47, e_X2_run_50, e_X2_run_53, e_X2_run_54, e_X2_run_57, e_X2_run_58, e_X2_run_59, e_X2_run_60, e_X2_run_61, e_X2_run_62, e_X2_run_65, e_X2_run_66, e_X2_run_67, e_X2_run_68, e_X2_run_71, e_X2_run_72, e_X2_run_73, e_X2_run_76, e_X2_run_79, e_X2_run_82, o_const, o_iload, o_aload, o_fload, o_dload, o_istore, o_astore, o_fstore, o_dstore, o_iinc, o_bin, o_div, o_un, o_i2l, o_i2f, o_i2d, o_f2d, o_fdiv, o_ddiv, o_lcmp, o_fcmp, o_dcmp, o_if, o_if2, o_goto, o_dup, o_dupx1, o_dup2, o_pop, o_getI, o_getR, o_putI, o_putR, o_iald, o_iast, o_bald, o_bast, o_zald, o_zast, o_aald, o_aast, o_jald, o_jast, o_dald, o_dast, o_alen, o_castA, o_new, o_newa, o_callv, o_callvN, o_calli, o_calls, o_objinit, o_iret, o_zret, o_fret, o_dret, o_aret, o_vret, o_throw, o_acopy, o_bcopy, o_clone, o_tsw, o_ldcS, o_kval, o_kcoder, o_klen, o_kald, o_tald, o_getSq, o_callk, o_callvH, gl, stl, stl2, pre2, va_rf, Value.category, catS, List.length_cons, List.length_nil, List.map_cons, List.map_nil, List.sum_cons, List.sum_nil, List.take_succ_cons, List.take_zero, List.drop_succ_cons, List.drop_zero, List.reverse_cons, List.reverse_nil, List.nil_append, List.cons_append, true_and, and_true, if_true, Nat.reduceAdd, Nat.reduceLT, Nat.reduceLeDiff, h1, h2, h5]
    exact ⟨fun _ => h S' hQ hF, fun c => absurd (nI_lt (by omega) (by omega)) c⟩
  | succ r ih =>
    intro m S' hm hQ hR hF
    have hQ0 := hQ
    obtain ⟨a, w, h1, h2, h3, h4, h5, h6, h7, h8, ⟨a1, a2, a3, a4⟩, ⟨w1, w2, w3, w4⟩, ⟨v1, v2, v3, v4⟩, x⟩ := hQ0
    have hR0 := hR
    obtain ⟨_, _, _, _, _, s1, s2, -⟩ := hR0
    have hcl : (nI m).toNatClampNeg = m := nI_clamp (by omega)
    rw [e_X2_run_45]
    simp only [e_X2_run_0, e_X2_run_1, e_X2_run_2, e_X2_run_5, e_X2_run_6, e_X2_run_9, e_X2_run_12, e_X2_run_15, e_X2_run_18, e_X2_run_19, e_X2_run_22, e_X2_run_23, e_X2_run_26, e_X2_run_27, e_X2_run_30, e_X2_run_33, e_X2_run_34, e_X2_run_35, e_X2_run_38, e_X2_run_39, e_X2_run_40, e_X2_run_43, e_X2_run_44, e_X2_run_46, e_X2_run_47, e_X2_run_50, e_X2_run_53, e_X2_run_54, e_X2_run_57, e_X2_run_58, e_X2_run_59, e_X2_run_60, e_X2_run_61, e_X2_run_62, e_X2_run_65, e_X2_run_66, e_X2_run_67, e_X2_run_68, e_X2_run_71, e_X2_run_72, e_X2_run_73, e_X2_run_76, e_X2_run_79, e_X2_run_82, o_const, o_iload, o_aload, o_fload, o_dload, o_istore, o_astore, o_fstore, o_dstore, o_iinc, o_bin, o_div, o_un, o_i2l, o_i2f, o_i2d, o_f2d, o_fdiv, o_ddiv, o_lcmp, o_fcmp, o_dcmp, o_if, o_if2, o_goto, o_dup, o_dupx1, o_dup2, o_pop, o_getI, o_getR, o_putI, o_putR, o_iald, o_iast, o_bald, o_bast, o_zald, o_zast, o_aald, o_aast, o_jald, o_jast, o_dald, o_dast, o_alen, o_castA, o_new, o_newa, o_callv, o_callvN, o_calli, o_calls, o_objinit, o_iret, o_zret, o_fret, o_dret, o_aret, o_vret, o_throw, o_acopy, o_bcopy, o_clone, o_tsw, o_ldcS, o_kval, o_kcoder, o_klen, o_kald, o_tald, o_getSq, o_callk, o_callvH, gl, stl, stl2, pre2, va_rf, Value.category, catS, List.length_cons, List.length_nil, List.map_cons, List.map_nil, List.sum_cons, List.sum_nil, List.take_succ_cons, List.take_zero, List.drop_succ_cons, List.drop_zero, List.reverse_cons, List.reverse_nil, List.nil_append, List.cons_append, true_and, and_true, if_true, Nat.reduceAdd, Nat.reduceLT, Nat.reduceLeDiff, h1, h2, h3, h5]
    refine ⟨fun c => absurd c (nI_nlt (by omega) (by omega)), fun _ => ⟨⟨st, _, rfl, rfl, s1, s2⟩, sp_quietCode hR ?_⟩⟩
    have k4 : ¬ 4 = ck := by omega
    simp only [behind, e_X2_run_0, e_X2_run_1, e_X2_run_2, e_X2_run_5, e_X2_run_6, e_X2_run_9, e_X2_run_12, e_X2_run_15, e_X2_run_18, e_X2_run_19, e_X2_run_22, e_X2_run_23, e_X2_run_26, e_X2_run_27, e_X2_run_30, e_X2_run_33, e_X2_run_34, e_X2_run_35, e_X2_run_38, e_X2_run_39, e_X2_run_40, e_X2_run_43, e_X2_run_44, e_X2_run_46, e_X2_run_47, e_X2_run_50, e_X2_run_53, e_X2_run_54, e_X2_run_57, e_X2_run_58, e_X2_run_59, e_X2_run_60, e_X2_run_61, e_X2_run_62, e_X2_run_65, e_X2_run_66, e_X2_run_67, e_X2_run_68, e_X2_run_71, e_X2_run_72, e_X2_run_73, e_X2_run_76, e_X2_run_79, e_X2_run_82, o_const, o_iload, o_aload, o_fload, o_dload, o_istore, o_astore, o_fstore, o_dstore, o_iinc, o_bin, o_div, o_un, o_i2l, o_i2f, o_i2d, o_f2d, o_fdiv, o_ddiv, o_lcmp, o_fcmp, o_dcmp, o_if, o_if2, o_goto, o_dup, o_dupx1, o_dup2, o_pop, o_getI, o_getR, o_putI, o_putR, o_iald, o_iast, o_bald, o_bast, o_zald, o_zast, o_aald, o_aast, o_jald, o_jast, o_dald, o_dast, o_alen, o_castA, o_new, o_newa, o_callv, o_callvN, o_calli, o_calls, o_objinit, o_iret, o_zret, o_fret, o_dret, o_aret, o_vret, o_throw, o_acopy, o_bcopy, o_clone, o_tsw, o_ldcS, o_kval, o_kcoder, o_klen, o_kald, o_tald, o_getSq, o_callk, o_callvH, gl, stl, stl2, pre2, va_rf, Value.category, catS, List.length_cons, List.length_nil, List.map_cons, List.map_nil, List.sum_cons, List.sum_nil, List.take_succ_cons, List.take_zero, List.drop_succ_cons, List.drop_zero, List.reverse_cons, List.reverse_nil, List.nil_append, List.cons_append, true_and, and_true, if_true, Nat.reduceAdd, Nat.reduceLT, Nat.reduceLeDiff, h1, h2, h3, h5, a1, a2, a3, hcl, gL_sW, gL_sI, gL_sR, gL_sC, gL_nW, gK_sW, gK_sI, gK_sR, gK_sC, gK_nW, gN_sW, gN_sI, gN_sR, gN_sC, gN_nW, gC_sW, gC_sI, gC_sR, gC_sC, gC_nW, gZ_sW, gZ_sI, gZ_sR, gZ_sC, gZ_nW, gR_sI, gI_sIk, and_self, if_true]
    have F2 := Fr.sI S' ck a m (nI (rcd C m))
    have hF2 := F2.mono (W' := RampA p ck wk) (fun t a' _ u => Or.inr (Or.inl u.1)) (Nat.le_refl _) (Nat.le_refl _)
    have hR2 := hR.ramp x hF2
    have kw : ¬ wk = ck := by omega
    have hQ2 : RampQ (sI S' ck a m (nI (rcd C m))) p ck wk (rgN C) (m + 1) m (rcd C) := ⟨a, w, (F2.1 p h1).1, (F2.1 p h1).2.1.trans h2, by rw [gR_sI]; exact h3, by rw [gR_sI]; exact h4, by rw [gI_sIk, if_neg (fun u => k4 u.1)]; exact h5, by rw [gI_sIk, if_neg (fun u => k4 u.1)]; exact h6, by rw [gI_sIk, if_neg (fun u => k4 u.1)]; exact h7, by rw [gI_sIk, if_neg (fun u => k4 u.1)]; exact h8, ⟨(F2.1 a a1).1, (F2.1 a a1).2.1.trans a2, (F2.1 a a1).2.2.trans a3, fun y hy => by
        rw [gI_sIk]
        by_cases e : y = m
        · rw [if_pos ⟨rfl, rfl, e⟩, e]
        · rw [if_neg (fun u => e u.2.2)]; exact a4 y (by omega)⟩, ⟨(F2.1 w w1).1, (F2.1 w w1).2.1.trans w2, (F2.1 w w1).2.2.trans w3, fun c hc => by rw [gI_sIk, if_neg (fun u => kw u.1)]; exact w4 c hc⟩, ⟨v1, by omega, by omega, fun y _ => cvC_le hV hT _⟩, x⟩
    refine ⟨x.1, vp_in_nI (by omega) (by decide), x.1, vp_in_nI (by omega) (by decide), ⟨p, _, rfl, rfl, h1, h2⟩, sp_addInput (f := rcd C) (m := m) hQ2 ?_⟩
    intro S3 hQ3 F3
    simp only [behind, e_X2_run_0, e_X2_run_1, e_X2_run_2, e_X2_run_5, e_X2_run_6, e_X2_run_9, e_X2_run_12, e_X2_run_15, e_X2_run_18, e_X2_run_19, e_X2_run_22, e_X2_run_23, e_X2_run_26, e_X2_run_27, e_X2_run_30, e_X2_run_33, e_X2_run_34, e_X2_run_35, e_X2_run_38, e_X2_run_39, e_X2_run_40, e_X2_run_43, e_X2_run_44, e_X2_run_46, e_X2_run_47, e_X2_run_50, e_X2_run_53, e_X2_run_54, e_X2_run_57, e_X2_run_58, e_X2_run_59, e_X2_run_60, e_X2_run_61, e_X2_run_62, e_X2_run_65, e_X2_run_66, e_X2_run_67, e_X2_run_68, e_X2_run_71, e_X2_run_72, e_X2_run_73, e_X2_run_76, e_X2_run_79, e_X2_run_82, o_const, o_iload, o_aload, o_fload, o_dload, o_istore, o_astore, o_fstore, o_dstore, o_iinc, o_bin, o_div, o_un, o_i2l, o_i2f, o_i2d, o_f2d, o_fdiv, o_ddiv, o_lcmp, o_fcmp, o_dcmp, o_if, o_if2, o_goto, o_dup, o_dupx1, o_dup2, o_pop, o_getI, o_getR, o_putI, o_putR, o_iald, o_iast, o_bald, o_bast, o_zald, o_zast, o_aald, o_aast, o_jald, o_jast, o_dald, o_dast, o_alen, o_castA, o_new, o_newa, o_callv, o_callvN, o_calli, o_calls, o_objinit, o_iret, o_zret, o_fret, o_dret, o_aret, o_vret, o_throw, o_acopy, o_bcopy, o_clone, o_tsw, o_ldcS, o_kval, o_kcoder, o_klen, o_kald, o_tald, o_getSq, o_callk, o_callvH, gl, stl, stl2, pre2, va_rf, Value.category, catS, List.length_cons, List.length_nil, List.map_cons, List.map_nil, List.sum_cons, List.sum_nil, List.take_succ_cons, List.take_zero, List.drop_succ_cons, List.drop_zero, List.reverse_cons, List.reverse_nil, List.nil_append, List.cons_append, true_and, and_true, if_true, Nat.reduceAdd, Nat.reduceLT, Nat.reduceLeDiff, nI_1]
    exact ih (m + 1) S3 (by omega) hQ3 (hR2.ramp x F3) ((hF.trans (hF2.trans F3)).mono (fun t a' _ u => by rcases u with u | u | u <;> exact u) (by decide) (by decide))
theorem sp_rampRun (hW : RampW S p ck wk) (hR : StateR S st B L C) (hT : ∀ k, k < aWm (sSet C) → sTab C k ≤ 1023) (h : ∀ S', RampR S' p ck wk (rgN C) (rcd C) → Fr S S' (RampA p ck wk) 0 0 → Q (.inl none) S') : WG ks (d + 4) n_X2_run [.ref p, .ref st] S Q := by
  refine ⟨by simp [cat1, Value.category], by show (2 : Nat) ≤ 3; decide, ?_⟩
  show Run ks (WG ks (d + 3)) Q tb_X2_run 0 [some (.ref p), some (.ref st), none] [] S
  obtain ⟨a, w, h1, h2, h3, h4, ⟨a1, a2, a3⟩, ⟨w1, w2, w3⟩, x⟩ := hW
  have hRc := hR
  obtain ⟨su, tb, kp, sn, dr, pq1, pq2, pq3, pq4, pq5, pq6, pq7, pq8, hSet, hSV, ⟨tn1, tn2, tn3, tn4⟩, hKept, hSeen, ⟨df, dn1, dn2, dn3, dn4⟩, hB⟩ := hRc
  have hSet0 := hSet
  obtain ⟨o5, a5, t5, c5, u5, hp, hpk, f0, f3, f7, r1, r2, r4, r5, r6, ⟨zo1, zo2, zo3, zo4⟩, ⟨za1, za2, za3, za4⟩, ⟨zt1, zt2, zt3, zt4⟩, ⟨zc1, zc2, zc3, zc4⟩, ⟨zu1, zu2, zu3, zu4⟩⟩ := hSet0
  simp only [e_X2_run_0, e_X2_run_1, e_X2_run_2, e_X2_run_5, e_X2_run_6, e_X2_run_9, e_X2_run_12, e_X2_run_15, e_X2_run_18, e_X2_run_19, e_X2_run_22, e_X2_run_23, e_X2_run_26, e_X2_run_27, e_X2_run_30, e_X2_run_33, e_X2_run_34, e_X2_run_35, e_X2_run_38, e_X2_run_39, e_X2_run_40, e_X2_run_43, e_X2_run_44, e_X2_run_46, e_X2_run_47, e_X2_run_50, e_X2_run_53, e_X2_run_54, e_X2_run_57, e_X2_run_58, e_X2_run_59, e_X2_run_60, e_X2_run_61, e_X2_run_62, e_X2_run_65, e_X2_run_66, e_X2_run_67, e_X2_run_68, e_X2_run_71, e_X2_run_72, e_X2_run_73, e_X2_run_76, e_X2_run_79, e_X2_run_82, o_const, o_iload, o_aload, o_fload, o_dload, o_istore, o_astore, o_fstore, o_dstore, o_iinc, o_bin, o_div, o_un, o_i2l, o_i2f, o_i2d, o_f2d, o_fdiv, o_ddiv, o_lcmp, o_fcmp, o_dcmp, o_if, o_if2, o_goto, o_dup, o_dupx1, o_dup2, o_pop, o_getI, o_getR, o_putI, o_putR, o_iald, o_iast, o_bald, o_bast, o_zald, o_zast, o_aald, o_aast, o_jald, o_jast, o_dald, o_dast, o_alen, o_castA, o_new, o_newa, o_callv, o_callvN, o_calli, o_calls, o_objinit, o_iret, o_zret, o_fret, o_dret, o_aret, o_vret, o_throw, o_acopy, o_bcopy, o_clone, o_tsw, o_ldcS, o_kval, o_kcoder, o_klen, o_kald, o_tald, o_getSq, o_callk, o_callvH, gl, stl, stl2, pre2, va_rf, Value.category, catS, List.length_cons, List.length_nil, List.map_cons, List.map_nil, List.sum_cons, List.sum_nil, List.take_succ_cons, List.take_zero, List.drop_succ_cons, List.drop_zero, List.reverse_cons, List.reverse_nil, List.nil_append, List.cons_append, true_and, and_true, if_true, Nat.reduceAdd, Nat.reduceLT, Nat.reduceLeDiff, h1, h2, h3, h4, pq1, pq2, pq3, pq4, pq5, pq6, pq7, pq8, tn1, tn2, tn3, dn1, dn2, dn3]
  have hrg := rgN_le hSV
  have n20 : (5120 : Int32) = nI 5120 := rfl
  refine ⟨⟨su, _, rfl, rfl, hp, hpk⟩, sp_sumBehind (i := 0) hSet hSV.2.1.2 (by decide) (by decide) ?_⟩
  simp only [behind, e_X2_run_0, e_X2_run_1, e_X2_run_2, e_X2_run_5, e_X2_run_6, e_X2_run_9, e_X2_run_12, e_X2_run_15, e_X2_run_18, e_X2_run_19, e_X2_run_22, e_X2_run_23, e_X2_run_26, e_X2_run_27, e_X2_run_30, e_X2_run_33, e_X2_run_34, e_X2_run_35, e_X2_run_38, e_X2_run_39, e_X2_run_40, e_X2_run_43, e_X2_run_44, e_X2_run_46, e_X2_run_47, e_X2_run_50, e_X2_run_53, e_X2_run_54, e_X2_run_57, e_X2_run_58, e_X2_run_59, e_X2_run_60, e_X2_run_61, e_X2_run_62, e_X2_run_65, e_X2_run_66, e_X2_run_67, e_X2_run_68, e_X2_run_71, e_X2_run_72, e_X2_run_73, e_X2_run_76, e_X2_run_79, e_X2_run_82, o_const, o_iload, o_aload, o_fload, o_dload, o_istore, o_astore, o_fstore, o_dstore, o_iinc, o_bin, o_div, o_un, o_i2l, o_i2f, o_i2d, o_f2d, o_fdiv, o_ddiv, o_lcmp, o_fcmp, o_dcmp, o_if, o_if2, o_goto, o_dup, o_dupx1, o_dup2, o_pop, o_getI, o_getR, o_putI, o_putR, o_iald, o_iast, o_bald, o_bast, o_zald, o_zast, o_aald, o_aast, o_jald, o_jast, o_dald, o_dast, o_alen, o_castA, o_new, o_newa, o_callv, o_callvN, o_calli, o_calls, o_objinit, o_iret, o_zret, o_fret, o_dret, o_aret, o_vret, o_throw, o_acopy, o_bcopy, o_clone, o_tsw, o_ldcS, o_kval, o_kcoder, o_klen, o_kald, o_tald, o_getSq, o_callk, o_callvH, gl, stl, stl2, pre2, va_rf, Value.category, catS, List.length_cons, List.length_nil, List.map_cons, List.map_nil, List.sum_cons, List.sum_nil, List.take_succ_cons, List.take_zero, List.drop_succ_cons, List.drop_zero, List.reverse_cons, List.reverse_nil, List.nil_append, List.cons_append, true_and, and_true, if_true, Nat.reduceAdd, Nat.reduceLT, Nat.reduceLeDiff]
  refine sp_min ?_
  rw [if_neg (show ¬ (5120 : Int32) < nI (sg (aAc (sSet C)) 0 (aWm (sSet C) - 0)) from fun z => by
    have := (nI_ltI (a := 5120) (b := rgN C) (by decide) (by omega)).mp z
    omega)]
  simp only [behind, e_X2_run_0, e_X2_run_1, e_X2_run_2, e_X2_run_5, e_X2_run_6, e_X2_run_9, e_X2_run_12, e_X2_run_15, e_X2_run_18, e_X2_run_19, e_X2_run_22, e_X2_run_23, e_X2_run_26, e_X2_run_27, e_X2_run_30, e_X2_run_33, e_X2_run_34, e_X2_run_35, e_X2_run_38, e_X2_run_39, e_X2_run_40, e_X2_run_43, e_X2_run_44, e_X2_run_46, e_X2_run_47, e_X2_run_50, e_X2_run_53, e_X2_run_54, e_X2_run_57, e_X2_run_58, e_X2_run_59, e_X2_run_60, e_X2_run_61, e_X2_run_62, e_X2_run_65, e_X2_run_66, e_X2_run_67, e_X2_run_68, e_X2_run_71, e_X2_run_72, e_X2_run_73, e_X2_run_76, e_X2_run_79, e_X2_run_82, o_const, o_iload, o_aload, o_fload, o_dload, o_istore, o_astore, o_fstore, o_dstore, o_iinc, o_bin, o_div, o_un, o_i2l, o_i2f, o_i2d, o_f2d, o_fdiv, o_ddiv, o_lcmp, o_fcmp, o_dcmp, o_if, o_if2, o_goto, o_dup, o_dupx1, o_dup2, o_pop, o_getI, o_getR, o_putI, o_putR, o_iald, o_iast, o_bald, o_bast, o_zald, o_zast, o_aald, o_aast, o_jald, o_jast, o_dald, o_dast, o_alen, o_castA, o_new, o_newa, o_callv, o_callvN, o_calli, o_calls, o_objinit, o_iret, o_zret, o_fret, o_dret, o_aret, o_vret, o_throw, o_acopy, o_bcopy, o_clone, o_tsw, o_ldcS, o_kval, o_kcoder, o_klen, o_kald, o_tald, o_getSq, o_callk, o_callvH, gl, stl, stl2, pre2, va_rf, Value.category, catS, List.length_cons, List.length_nil, List.map_cons, List.map_nil, List.sum_cons, List.sum_nil, List.take_succ_cons, List.take_zero, List.drop_succ_cons, List.drop_zero, List.reverse_cons, List.reverse_nil, List.nil_append, List.cons_append, true_and, and_true, if_true, Nat.reduceAdd, Nat.reduceLT, Nat.reduceLeDiff, h1, h2, h3, h4, gL_sW, gL_sI, gL_sR, gL_sC, gL_nW, gK_sW, gK_sI, gK_sR, gK_sC, gK_nW, gN_sW, gN_sI, gN_sR, gN_sC, gN_nW, gC_sW, gC_sI, gC_sR, gC_sC, gC_nW, gZ_sW, gZ_sI, gZ_sR, gZ_sC, gZ_nW, narI, gR_sI]
  refine sp_fill (t := wk) (N := 10231) w1 w2 x.2.1 w3 (by decide) ?_
  simp only [behind, e_X2_run_0, e_X2_run_1, e_X2_run_2, e_X2_run_5, e_X2_run_6, e_X2_run_9, e_X2_run_12, e_X2_run_15, e_X2_run_18, e_X2_run_19, e_X2_run_22, e_X2_run_23, e_X2_run_26, e_X2_run_27, e_X2_run_30, e_X2_run_33, e_X2_run_34, e_X2_run_35, e_X2_run_38, e_X2_run_39, e_X2_run_40, e_X2_run_43, e_X2_run_44, e_X2_run_46, e_X2_run_47, e_X2_run_50, e_X2_run_53, e_X2_run_54, e_X2_run_57, e_X2_run_58, e_X2_run_59, e_X2_run_60, e_X2_run_61, e_X2_run_62, e_X2_run_65, e_X2_run_66, e_X2_run_67, e_X2_run_68, e_X2_run_71, e_X2_run_72, e_X2_run_73, e_X2_run_76, e_X2_run_79, e_X2_run_82, o_const, o_iload, o_aload, o_fload, o_dload, o_istore, o_astore, o_fstore, o_dstore, o_iinc, o_bin, o_div, o_un, o_i2l, o_i2f, o_i2d, o_f2d, o_fdiv, o_ddiv, o_lcmp, o_fcmp, o_dcmp, o_if, o_if2, o_goto, o_dup, o_dupx1, o_dup2, o_pop, o_getI, o_getR, o_putI, o_putR, o_iald, o_iast, o_bald, o_bast, o_zald, o_zast, o_aald, o_aast, o_jald, o_jast, o_dald, o_dast, o_alen, o_castA, o_new, o_newa, o_callv, o_callvN, o_calli, o_calls, o_objinit, o_iret, o_zret, o_fret, o_dret, o_aret, o_vret, o_throw, o_acopy, o_bcopy, o_clone, o_tsw, o_ldcS, o_kval, o_kcoder, o_klen, o_kald, o_tald, o_getSq, o_callk, o_callvH, gl, stl, stl2, pre2, va_rf, Value.category, catS, List.length_cons, List.length_nil, List.map_cons, List.map_nil, List.sum_cons, List.sum_nil, List.take_succ_cons, List.take_zero, List.drop_succ_cons, List.drop_zero, List.reverse_cons, List.reverse_nil, List.nil_append, List.cons_append, true_and, and_true, if_true, Nat.reduceAdd, Nat.reduceLT, Nat.reduceLeDiff, h1, h2, h3, h4, gL_sW, gL_sI, gL_sR, gL_sC, gL_nW, gK_sW, gK_sI, gK_sR, gK_sC, gK_nW, gN_sW, gN_sI, gN_sR, gN_sC, gN_nW, gC_sW, gC_sI, gC_sR, gC_sC, gC_nW, gZ_sW, gZ_sI, gZ_sR, gZ_sC, gZ_nW, narI, gR_sI, gR_sW]
  have F1 := Fr.sI S 4 p 2 (nI (rgN C))
  have F2 := Fr.sW (sI S 4 p 2 (nI (rgN C))) wk w (flr (gI (sI S 4 p 2 (nI (rgN C))) wk w) 0 10231)
  have F12 := F1.trans F2
  have g2 : gI (sW (sI S 4 p 2 (nI (rgN C))) wk w (flr (gI (sI S 4 p 2 (nI (rgN C))) wk w) 0 10231)) 4 p 2 = nI (rgN C) := by rw [gI_sW, if_neg (fun u => by omega), gI_sIk, if_pos ⟨rfl, rfl, rfl⟩]
  have gw : ∀ c, c < 10231 → gI (sW (sI S 4 p 2 (nI (rgN C))) wk w (flr (gI (sI S 4 p 2 (nI (rgN C))) wk w) 0 10231)) wk w c = 0 := fun c hc => by
    rw [gI_W]; exact if_pos hc
  have gr : gR (sW (sI S 4 p 2 (nI (rgN C))) wk w (flr (gI (sI S 4 p 2 (nI (rgN C))) wk w) 0 10231)) 4 p = gR S 4 p := by rw [gR_sW, gR_sI]
  show Run ks (WG ks (d + 3)) Q tb_X2_run 45 [some (.ref p), some (.ref st), some (.int 0)] [] (sI (sI (sI (sW (sI S 4 p 2 (nI (rgN C))) wk w (flr (gI (sI S 4 p 2 (nI (rgN C))) wk w) 0 10231)) 4 p 3 10230) 4 p 4 0) 4 p 5 0)
  generalize sW (sI S 4 p 2 (nI (rgN C))) wk w (flr (gI (sI S 4 p 2 (nI (rgN C))) wk w) 0 10231) = S1 at F12 g2 gw gr ⊢
  have F3 := (Fr.sI S1 4 p 3 10230).trans ((Fr.sI (sI S1 4 p 3 10230) 4 p 4 0).trans (Fr.sI (sI (sI S1 4 p 3 10230) 4 p 4 0) 4 p 5 0))
  have F13 := (F12.trans F3).mono (W' := RampA p ck wk) (fun t a' _ u => by
    rcases u with (u | u) | u | u | u
    · exact Or.inl u
    · exact Or.inr (Or.inr u.1)
    all_goals exact Or.inl u) (Nat.le_refl _) (Nat.le_refl _)
  have k5 : ¬ wk = 4 := by omega
  refine sp_rampRun_lp hSV hT h (rgN C + 1) 0 _ (by omega) ⟨a, w, (F13.1 p h1).1, (F13.1 p h1).2.1.trans h2, by rw [gR_sI, gR_sI, gR_sI, gr]; exact h3, by rw [gR_sI, gR_sI, gR_sI, gr]; exact h4, ?_, ?_, ?_, ?_, ⟨(F13.1 a a1).1, (F13.1 a a1).2.1.trans a2, (F13.1 a a1).2.2.trans a3, fun y hy => absurd hy (by omega)⟩, ⟨(F13.1 w w1).1, (F13.1 w w1).2.1.trans w2, (F13.1 w w1).2.2.trans w3, fun c hc => ?_⟩, ⟨hrg, by omega, by omega, fun y hy => absurd hy (by omega)⟩, x⟩ (hR.ramp x F13) (F13.mono (fun _ _ _ u => u) (by decide) (by decide))
  · rw [gI_sIk, if_neg (fun u => absurd u.2.2 (by decide)), gI_sIk, if_neg (fun u => absurd u.2.2 (by decide)), gI_sIk, if_neg (fun u => absurd u.2.2 (by decide))]; exact g2
  · rw [gI_sIk, if_neg (fun u => absurd u.2.2 (by decide)), gI_sIk, if_neg (fun u => absurd u.2.2 (by decide)), gI_sIk, if_pos ⟨rfl, rfl, rfl⟩]; rfl
  · rw [gI_sIk, if_neg (fun u => absurd u.2.2 (by decide)), gI_sIk, if_pos ⟨rfl, rfl, rfl⟩]; rfl
  · rw [gI_sIk, if_pos ⟨rfl, rfl, rfl⟩]; rfl
  · rw [gI_sIk, if_neg (fun u => k5 u.1), gI_sIk, if_neg (fun u => k5 u.1), gI_sIk, if_neg (fun u => k5 u.1), gw c hc]; rfl
end SPS
