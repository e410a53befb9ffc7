/-! THE MODEL: the ramp's questions, on -/
section SPS
variable {ks : Nat → Nat} {d : Nat} {Q : QP} {S : M9} {m M tl hn wn : Nat} {ad : Nat → Nat} {T Wt : Nat → Int32} {eA : Int32} {H : Nat → CSt} {C : CSt} {s0 s1 : CSl}
theorem sp_mMissingAt (hM : MoR S m ad tl T eA hn H C wn Wt s0 s1) (hV : VC M C) {p : Int32}
    (h : ∀ S' v, MoR S' m ad tl T eA hn H C wn Wt s0 s1 → gI S' 11 m 6 = nI (rMisAt C p).1 → ((rMisAt C p).1 = 0 → v = (rMisAt C p).2) → Fr S S' (fun t _ => nM t) 0 0 → Q (.inl (some (.int v))) S') : WG ks (d + 4) n_X9_missingAt [.ref m, .int p] S Q := by
  refine ⟨by simp [cat1, Value.category], by show (2 : Nat) ≤ 4; decide, ?_⟩
  show Run ks (WG ks (d + 3)) Q tb_X9_missingAt 0 [some (.ref m), some (.int p), none, none] [] S
  have hm := hM.1.1
  simp only [e_X9_missingAt_0, e_X9_missingAt_1, e_X9_missingAt_4, e_X9_missingAt_5, e_X9_missingAt_6, e_X9_missingAt_7, e_X9_missingAt_8, e_X9_missingAt_11, e_X9_missingAt_12, e_X9_missingAt_15, e_X9_missingAt_17, e_X9_missingAt_18, e_X9_missingAt_21, e_X9_missingAt_24, e_X9_missingAt_25, e_X9_missingAt_28, e_X9_missingAt_29, e_X9_missingAt_32, e_X9_missingAt_33, e_X9_missingAt_34, e_X9_missingAt_37, e_X9_missingAt_40, e_X9_missingAt_41, e_X9_missingAt_44, e_X9_missingAt_45, e_X9_missingAt_46, e_X9_missingAt_49, e_X9_missingAt_50, e_X9_missingAt_51, e_X9_missingAt_54, e_X9_missingAt_57, e_X9_missingAt_60, e_X9_missingAt_61, o_const, o_iload, o_aload, o_fload, o_dload, o_istore, o_astore, o_fstore, o_dstore, o_iinc, o_bin, o_div, o_un, o_i2l, o_i2f, o_i2d, o_f2d, o_fdiv, o_ddiv, o_lcmp, o_fcmp, o_dcmp, o_if, o_if2, o_goto, o_dup, o_dupx1, o_dup2, o_pop, o_getI, o_getR, o_putI, o_putR, o_iald, o_iast, o_bald, o_bast, o_zald, o_zast, o_aald, o_aast, o_jald, o_jast, o_dald, o_dast, o_alen, o_castA, o_new, o_newa, o_callv, o_callvN, o_calli, o_calls, o_objinit, o_iret, o_zret, o_fret, o_dret, o_aret, o_vret, o_throw, o_acopy, o_bcopy, o_clone, o_tsw, o_ldcS, o_kval, o_kcoder, o_klen, o_kald, o_tald, o_getSq, o_callk, o_callvH, gl, stl, stl2, pre2, va_rf, Value.category, catS, List.length_cons, List.length_nil, List.map_cons, List.map_nil, List.sum_cons, List.sum_nil, List.take_succ_cons, List.take_zero, List.drop_succ_cons, List.drop_zero, List.reverse_cons, List.reverse_nil, List.nil_append, List.cons_append, true_and, and_true, if_true, Nat.reduceAdd, Nat.reduceLT, Nat.reduceLeDiff, hm]
  refine ⟨⟨m, _, rfl, rfl, hm⟩, sp_mWorksC hM hV ?_⟩
  intro S2 hM2 hj hRp F2
  have hm2 := hM2.1.1
  simp only [behind, e_X9_missingAt_0, e_X9_missingAt_1, e_X9_missingAt_4, e_X9_missingAt_5, e_X9_missingAt_6, e_X9_missingAt_7, e_X9_missingAt_8, e_X9_missingAt_11, e_X9_missingAt_12, e_X9_missingAt_15, e_X9_missingAt_17, e_X9_missingAt_18, e_X9_missingAt_21, e_X9_missingAt_24, e_X9_missingAt_25, e_X9_missingAt_28, e_X9_missingAt_29, e_X9_missingAt_32, e_X9_missingAt_33, e_X9_missingAt_34, e_X9_missingAt_37, e_X9_missingAt_40, e_X9_missingAt_41, e_X9_missingAt_44, e_X9_missingAt_45, e_X9_missingAt_46, e_X9_missingAt_49, e_X9_missingAt_50, e_X9_missingAt_51, e_X9_missingAt_54, e_X9_missingAt_57, e_X9_missingAt_60, e_X9_missingAt_61, o_const, o_iload, o_aload, o_fload, o_dload, o_istore, o_astore, o_fstore, o_dstore, o_iinc, o_bin, o_div, o_un, o_i2l, o_i2f, o_i2d, o_f2d, o_fdiv, o_ddiv, o_lcmp, o_fcmp, o_dcmp, o_if, o_if2, o_goto, o_dup, o_dupx1, o_dup2, o_pop, o_getI, o_getR, o_putI, o_putR, o_iald, o_iast, o_bald, o_bast, o_zald, o_zast, o_aald, o_aast, o_jald, o_jast, o_dald, o_dast, o_alen, o_castA, o_new, o_newa, o_callv, o_callvN, o_calli, o_calls, o_objinit, o_iret, o_zret, o_fret, o_dret, o_aret, o_vret, o_throw, o_acopy, o_bcopy, o_clone, o_tsw, o_ldcS, o_kval, o_kcoder, o_klen, o_kald, o_tald, o_getSq, o_callk, o_callvH, gl, stl, stl2, pre2, va_rf, Value.category, catS, List.length_cons, List.length_nil, List.map_cons, List.map_nil, List.sum_cons, List.sum_nil, List.take_succ_cons, List.take_zero, List.drop_succ_cons, List.drop_zero, List.reverse_cons, List.reverse_nil, List.nil_append, List.cons_append, true_and, and_true, if_true, Nat.reduceAdd, Nat.reduceLT, Nat.reduceLeDiff, hm2, gL_sW, gL_sI, gL_sR, gL_sC, gL_nW, gK_sW, gK_sI, gK_sR, gK_sC, gK_nW, gN_sW, gN_sI, gN_sR, gN_sC, gN_nW, gC_sW, gC_sI, gC_sR, gC_sC, gC_nW, gZ_sW, gZ_sI, gZ_sR, gZ_sC, gZ_nW, narI, gR_sI, gI_sIk, Nat.reduceEqDiff, false_and, and_false, if_false, and_self, hRp.1.1]
  have hM3 := hM2.f (j := 6) (v := 1) (by decide)
  have hl := lsF_le (rcd C) (rgN C + 1)
  obtain ⟨l1, l2⟩ := ls_gs (f := rcd C) (rgN C)
  have hRp3 : MRamp (sI S2 11 m 6 1) m ad (rgN C) (rcd C) := by
    obtain ⟨⟨u1, u2⟩, u3, u4⟩ := hRp
    refine ⟨⟨?_, ?_⟩, fun x hx => ?_, fun c hc => ?_⟩
    · rw [gI_sIk, if_neg (fun w => by omega)]; exact u1
    · rw [gI_sIk, if_neg (fun w => by omega)]; exact u2
    · rw [gI_sIk, if_neg (fun w => by omega)]; exact u3 x hx
    · rw [gI_sIk, if_neg (fun w => by omega)]; exact u4 c hc
  have g6 : gI (sI S2 11 m 6 1) 11 m 6 = 1 := by rw [gI_sIk, if_pos ⟨rfl, rfl, rfl⟩]
  have F3 := F2.nM2 (nM_fr S2 (m := m) (j := 6) (v := 1))
  by_cases hp : p < 0
  · have ha : rMisAt C p = (1, 0) := if_neg (fun w => w.1 hp)
    rw [ha] at h
    rw [e_X9_missingAt_16]
    simp only [e_X9_missingAt_0, e_X9_missingAt_1, e_X9_missingAt_4, e_X9_missingAt_5, e_X9_missingAt_6, e_X9_missingAt_7, e_X9_missingAt_8, e_X9_missingAt_11, e_X9_missingAt_12, e_X9_missingAt_15, e_X9_missingAt_17, e_X9_missingAt_18, e_X9_missingAt_21, e_X9_missingAt_24, e_X9_missingAt_25, e_X9_missingAt_28, e_X9_missingAt_29, e_X9_missingAt_32, e_X9_missingAt_33, e_X9_missingAt_34, e_X9_missingAt_37, e_X9_missingAt_40, e_X9_missingAt_41, e_X9_missingAt_44, e_X9_missingAt_45, e_X9_missingAt_46, e_X9_missingAt_49, e_X9_missingAt_50, e_X9_missingAt_51, e_X9_missingAt_54, e_X9_missingAt_57, e_X9_missingAt_60, e_X9_missingAt_61, o_const, o_iload, o_aload, o_fload, o_dload, o_istore, o_astore, o_fstore, o_dstore, o_iinc, o_bin, o_div, o_un, o_i2l, o_i2f, o_i2d, o_f2d, o_fdiv, o_ddiv, o_lcmp, o_fcmp, o_dcmp, o_if, o_if2, o_goto, o_dup, o_dupx1, o_dup2, o_pop, o_getI, o_getR, o_putI, o_putR, o_iald, o_iast, o_bald, o_bast, o_zald, o_zast, o_aald, o_aast, o_jald, o_jast, o_dald, o_dast, o_alen, o_castA, o_new, o_newa, o_callv, o_callvN, o_calli, o_calls, o_objinit, o_iret, o_zret, o_fret, o_dret, o_aret, o_vret, o_throw, o_acopy, o_bcopy, o_clone, o_tsw, o_ldcS, o_kval, o_kcoder, o_klen, o_kald, o_tald, o_getSq, o_callk, o_callvH, gl, stl, stl2, pre2, va_rf, Value.category, catS, List.length_cons, List.length_nil, List.map_cons, List.map_nil, List.sum_cons, List.sum_nil, List.take_succ_cons, List.take_zero, List.drop_succ_cons, List.drop_zero, List.reverse_cons, List.reverse_nil, List.nil_append, List.cons_append, true_and, and_true, if_true, Nat.reduceAdd, Nat.reduceLT, Nat.reduceLeDiff, hm2, gL_sW, gL_sI, gL_sR, gL_sC, gL_nW, gK_sW, gK_sI, gK_sR, gK_sC, gK_nW, gN_sW, gN_sI, gN_sR, gN_sC, gN_nW, gC_sW, gC_sI, gC_sR, gC_sC, gC_nW, gZ_sW, gZ_sI, gZ_sR, gZ_sC, gZ_nW, gR_sI, gI_sIk, Nat.reduceEqDiff, false_and, and_false, if_false, and_self, hRp3.1.2]
    refine ⟨fun _ => h _ _ hM3 g6 (fun z => absurd z (by decide)) F3, fun _ => ⟨fun _ => h _ _ hM3 g6 (fun z => absurd z (by decide)) F3, fun z => absurd hp z⟩⟩
  · obtain ⟨k, hk, rfl⟩ := nI_of hp
    have key := sp_mMis_lp (ks := ks) (d := d + 3) (Q := Q) hM3.1 (rgN_le hV.1) (rcd_le hV) hRp3 hk (gsF (rcd C) (rgN C + 1) + 1 - lsF (rcd C) (rgN C + 1)) (lsF (rcd C) (rgN C + 1)) 0 (by omega) (Nat.zero_le _) (fun w => ?_) (fun w => ?_)
    · rw [Nat.sub_zero] at key
      exact key
    · rw [Nat.zero_add] at w
      have hsm := ix_mc (f := rcd C) (n := rgN C + 1) (a := lsF (rcd C) (rgN C + 1)) (gsF (rcd C) (rgN C + 1) + 1 - lsF (rcd C) (rgN C + 1))
      have hg := gsF_le (f := rcd C) (rgN C + 1) (fun x _ => rcd_le hV x)
      have ha : rMisAt C (nI k) = (0, msC (rcd C) (rgN C + 1) (nI k) (gsF (rcd C) (rgN C + 1) + 1 - lsF (rcd C) (rgN C + 1)) (lsF (rcd C) (rgN C + 1)) 0) := if_pos ⟨hp, by rw [rMiss_e]; exact nI_lt w (by omega)⟩
      rw [ha] at h
      refine h _ _ (hM3.f (by decide)) (by rw [gI_sIk, if_pos ⟨rfl, rfl, rfl⟩]; rfl) (fun _ => rfl) (F3.nM2 (nM_fr _))
    · rw [Nat.zero_add] at w
      have hsm := ix_mc (f := rcd C) (n := rgN C + 1) (a := lsF (rcd C) (rgN C + 1)) (gsF (rcd C) (rgN C + 1) + 1 - lsF (rcd C) (rgN C + 1))
      have hg := gsF_le (f := rcd C) (rgN C + 1) (fun x _ => rcd_le hV x)
      have ha : rMisAt C (nI k) = (1, 0) := if_neg (fun z => w (by have := z.2; rw [rMiss_e] at this; exact (nI_ltI hk (by omega)).mp this))
      rw [ha] at h
      exact h _ _ hM3 g6 (fun z => absurd z (by decide)) F3
theorem wd_in {f : Nat → Nat} {rg k : Nat} (hc : ¬ (lsF f (rg + 1) ≤ k ∧ k ≤ gsF f (rg + 1))) : cnW f (rg + 1) k = 0 :=
  cnW_0 _ (fun x hx e => hc (by have a := ls_le (f := f) _ x hx; have b := gs_ge (f := f) _ x hx; omega))
theorem sp_mWidth (hM : MoR S m ad tl T eA hn H C wn Wt s0 s1) (hV : VC M C) {c : Int32}
    (h : ∀ S', MoR S' m ad tl T eA hn H C wn Wt s0 s1 → gI S' 11 m 6 = 0 → Fr S S' (fun t _ => nM t) 0 0 → Q (.inl (some (.int (wdI (rcd C) (rgN C + 1) c)))) S') : WG ks (d + 4) n_X9_width [.ref m, .int c] S Q := by
  refine ⟨by simp [cat1, Value.category], by show (2 : Nat) ≤ 2; decide, ?_⟩
  show Run ks (WG ks (d + 3)) Q tb_X9_width 0 [some (.ref m), some (.int c)] [] S
  have hm := hM.1.1
  have hM1 := hM.f (j := 6) (v := 0) (by decide)
  have hl := lsF_le (rcd C) (rgN C + 1)
  have hg := gsF_le (f := rcd C) (rgN C + 1) (fun x _ => rcd_le hV x)
  simp only [e_X9_width_0, e_X9_width_1, e_X9_width_2, e_X9_width_5, e_X9_width_6, e_X9_width_9, e_X9_width_10, e_X9_width_11, e_X9_width_14, e_X9_width_15, e_X9_width_18, e_X9_width_21, e_X9_width_24, e_X9_width_25, e_X9_width_28, e_X9_width_29, e_X9_width_30, e_X9_width_33, e_X9_width_34, o_const, o_iload, o_aload, o_fload, o_dload, o_istore, o_astore, o_fstore, o_dstore, o_iinc, o_bin, o_div, o_un, o_i2l, o_i2f, o_i2d, o_f2d, o_fdiv, o_ddiv, o_lcmp, o_fcmp, o_dcmp, o_if, o_if2, o_goto, o_dup, o_dupx1, o_dup2, o_pop, o_getI, o_getR, o_putI, o_putR, o_iald, o_iast, o_bald, o_bast, o_zald, o_zast, o_aald, o_aast, o_jald, o_jast, o_dald, o_dast, o_alen, o_castA, o_new, o_newa, o_callv, o_callvN, o_calli, o_calls, o_objinit, o_iret, o_zret, o_fret, o_dret, o_aret, o_vret, o_throw, o_acopy, o_bcopy, o_clone, o_tsw, o_ldcS, o_kval, o_kcoder, o_klen, o_kald, o_tald, o_getSq, o_callk, o_callvH, gl, stl, stl2, pre2, va_rf, Value.category, catS, List.length_cons, List.length_nil, List.map_cons, List.map_nil, List.sum_cons, List.sum_nil, List.take_succ_cons, List.take_zero, List.drop_succ_cons, List.drop_zero, List.reverse_cons, List.reverse_nil, List.nil_append, List.cons_append, true_and, and_true, if_true, Nat.reduceAdd, Nat.reduceLT, Nat.reduceLeDiff, hm, gL_sW, gL_sI, gL_sR, gL_sC, gL_nW, gK_sW, gK_sI, gK_sR, gK_sC, gK_nW, gN_sW, gN_sI, gN_sR, gN_sC, gN_nW, gC_sW, gC_sI, gC_sR, gC_sC, gC_nW, gZ_sW, gZ_sI, gZ_sR, gZ_sC, gZ_nW, narI, and_self]
  refine ⟨⟨m, _, rfl, rfl, hm⟩, sp_mWorksC hM1 hV ?_⟩
  intro S2 hM2 hj hRp F2
  have hm2 := hM2.1.1
  have hh := h S2 hM2 (by rw [hj 6 (by decide) (by decide), gI_sIk, if_pos ⟨rfl, rfl, rfl⟩]) ((nM_fr S).nM2 F2)
  obtain ⟨⟨u1, u2⟩, -, u4⟩ := hRp
  have hMc := hM2.1
  obtain ⟨-, -, -, -, -, -, -, -, -, -, -, -, ⟨b1, b2, b3, b4⟩, -⟩ := hMc
  simp only [behind, e_X9_width_0, e_X9_width_1, e_X9_width_2, e_X9_width_5, e_X9_width_6, e_X9_width_9, e_X9_width_10, e_X9_width_11, e_X9_width_14, e_X9_width_15, e_X9_width_18, e_X9_width_21, e_X9_width_24, e_X9_width_25, e_X9_width_28, e_X9_width_29, e_X9_width_30, e_X9_width_33, e_X9_width_34, o_const, o_iload, o_aload, o_fload, o_dload, o_istore, o_astore, o_fstore, o_dstore, o_iinc, o_bin, o_div, o_un, o_i2l, o_i2f, o_i2d, o_f2d, o_fdiv, o_ddiv, o_lcmp, o_fcmp, o_dcmp, o_if, o_if2, o_goto, o_dup, o_dupx1, o_dup2, o_pop, o_getI, o_getR, o_putI, o_putR, o_iald, o_iast, o_bald, o_bast, o_zald, o_zast, o_aald, o_aast, o_jald, o_jast, o_dald, o_dast, o_alen, o_castA, o_new, o_newa, o_callv, o_callvN, o_calli, o_calls, o_objinit, o_iret, o_zret, o_fret, o_dret, o_aret, o_vret, o_throw, o_acopy, o_bcopy, o_clone, o_tsw, o_ldcS, o_kval, o_kcoder, o_klen, o_kald, o_tald, o_getSq, o_callk, o_callvH, gl, stl, stl2, pre2, va_rf, Value.category, catS, List.length_cons, List.length_nil, List.map_cons, List.map_nil, List.sum_cons, List.sum_nil, List.take_succ_cons, List.take_zero, List.drop_succ_cons, List.drop_zero, List.reverse_cons, List.reverse_nil, List.nil_append, List.cons_append, true_and, and_true, if_true, Nat.reduceAdd, Nat.reduceLT, Nat.reduceLeDiff, hm2, u1, u2]
  refine sp_mIn (d := d + 2) (fun c1 => ?_) (fun c1 => ?_)
  · have hc0 : ¬ c < 0 := fun z => c1.1 (Int32.lt_of_lt_of_le z (nI_pos' (by omega)))
    obtain ⟨k, hk, rfl⟩ := nI_of hc0
    have k1 : k ≤ 10230 := by
      rcases Nat.lt_or_ge (gsF (rcd C) (rgN C + 1)) k with e | e
      · exact absurd (nI_lt e hk) c1.2
      · omega
    have q0 : (nI k).toNatClampNeg = k := nI_clamp hk
    have v0 : vp_in (nI k) 10231 := vp_in_nI (by omega) (by decide)
    unfold wdI at hh
    rw [if_neg hc0, if_neg (fun z => by have := (nI_leI (by omega) (by omega)).mp z; omega), q0] at hh
    simp only [behind, e_X9_width_0, e_X9_width_1, e_X9_width_2, e_X9_width_5, e_X9_width_6, e_X9_width_9, e_X9_width_10, e_X9_width_11, e_X9_width_14, e_X9_width_15, e_X9_width_18, e_X9_width_21, e_X9_width_24, e_X9_width_25, e_X9_width_28, e_X9_width_29, e_X9_width_30, e_X9_width_33, e_X9_width_34, o_const, o_iload, o_aload, o_fload, o_dload, o_istore, o_astore, o_fstore, o_dstore, o_iinc, o_bin, o_div, o_un, o_i2l, o_i2f, o_i2d, o_f2d, o_fdiv, o_ddiv, o_lcmp, o_fcmp, o_dcmp, o_if, o_if2, o_goto, o_dup, o_dupx1, o_dup2, o_pop, o_getI, o_getR, o_putI, o_putR, o_iald, o_iast, o_bald, o_bast, o_zald, o_zast, o_aald, o_aast, o_jald, o_jast, o_dald, o_dast, o_alen, o_castA, o_new, o_newa, o_callv, o_callvN, o_calli, o_calls, o_objinit, o_iret, o_zret, o_fret, o_dret, o_aret, o_vret, o_throw, o_acopy, o_bcopy, o_clone, o_tsw, o_ldcS, o_kval, o_kcoder, o_klen, o_kald, o_tald, o_getSq, o_callk, o_callvH, gl, stl, stl2, pre2, va_rf, Value.category, catS, List.length_cons, List.length_nil, List.map_cons, List.map_nil, List.sum_cons, List.sum_nil, List.take_succ_cons, List.take_zero, List.drop_succ_cons, List.drop_zero, List.reverse_cons, List.reverse_nil, List.nil_append, List.cons_append, true_and, and_true, if_true, Nat.reduceAdd, Nat.reduceLT, Nat.reduceLeDiff, hm2, b1, b2, b3, b4, q0, v0, u4 k (by omega)]
    exact ⟨fun z => absurd z (by decide), fun _ => hh⟩
  · simp only [behind, e_X9_width_0, e_X9_width_1, e_X9_width_2, e_X9_width_5, e_X9_width_6, e_X9_width_9, e_X9_width_10, e_X9_width_11, e_X9_width_14, e_X9_width_15, e_X9_width_18, e_X9_width_21, e_X9_width_24, e_X9_width_25, e_X9_width_28, e_X9_width_29, e_X9_width_30, e_X9_width_33, e_X9_width_34, o_const, o_iload, o_aload, o_fload, o_dload, o_istore, o_astore, o_fstore, o_dstore, o_iinc, o_bin, o_div, o_un, o_i2l, o_i2f, o_i2d, o_f2d, o_fdiv, o_ddiv, o_lcmp, o_fcmp, o_dcmp, o_if, o_if2, o_goto, o_dup, o_dupx1, o_dup2, o_pop, o_getI, o_getR, o_putI, o_putR, o_iald, o_iast, o_bald, o_bast, o_zald, o_zast, o_aald, o_aast, o_jald, o_jast, o_dald, o_dast, o_alen, o_castA, o_new, o_newa, o_callv, o_callvN, o_calli, o_calls, o_objinit, o_iret, o_zret, o_fret, o_dret, o_aret, o_vret, o_throw, o_acopy, o_bcopy, o_clone, o_tsw, o_ldcS, o_kval, o_kcoder, o_klen, o_kald, o_tald, o_getSq, o_callk, o_callvH, gl, stl, stl2, pre2, va_rf, Value.category, catS, List.length_cons, List.length_nil, List.map_cons, List.map_nil, List.sum_cons, List.sum_nil, List.take_succ_cons, List.take_zero, List.drop_succ_cons, List.drop_zero, List.reverse_cons, List.reverse_nil, List.nil_append, List.cons_append, true_and, and_true, if_true, Nat.reduceAdd, Nat.reduceLT, Nat.reduceLeDiff]
    refine ⟨fun _ => ?_, fun z => absurd (by decide) z⟩
    have e0 : wdI (rcd C) (rgN C + 1) c = 0 := by
      unfold wdI
      by_cases hc0 : c < 0
      · rw [if_pos hc0]
      · rw [if_neg hc0]
        by_cases h2 : nI 10231 ≤ c
        · rw [if_pos h2]
        · rw [if_neg h2]
          obtain ⟨k, hk, rfl⟩ := nI_of hc0
          rw [nI_clamp hk, wd_in (fun w => c1 ⟨nI_nlt w.1 hk, nI_nlt w.2 (by omega)⟩)]; rfl
    rw [e0] at hh
    exact hh
theorem sp_mWid_lp (hM : MS S m ad) {rg : Nat} (hrg : rg ≤ 5120) {f : Nat → Nat} (hf : ∀ x, f x ≤ 10230) (hRp : MRamp S m ad rg f) (h : Q (.inl (some (.int (nI (wdB f (rg + 1) (lsF f (rg + 1)) (gsF f (rg + 1) + 1 - lsF f (rg + 1))))))) S) :
    ∀ r k, k + r = gsF f (rg + 1) + 1 - lsF f (rg + 1) → Run ks (WG ks d) Q tb_X9_widest 19 [some (.ref m), some (.int (nI (wdB f (rg + 1) (lsF f (rg + 1)) k))), some (.int (nI (lsF f (rg + 1) + k)))] [] S := by
  obtain ⟨⟨m1, m2⟩, -, -, -, -, -, -, -, -, -, -, -, ⟨b1, b2, b3, b4⟩, -⟩ := hM
  obtain ⟨⟨g25, g26⟩, -, gw⟩ := hRp
  have hl := lsF_le f (rg + 1)
  have hg := gsF_le (f := f) (rg + 1) (fun x _ => hf x)
  obtain ⟨l1, l2⟩ := ls_gs (f := f) rg
  intro r
  induction r with
  | zero =>
    intro k hk
    have e : k = gsF f (rg + 1) + 1 - lsF f (rg + 1) := by omega
    subst e
    rw [e_X9_widest_19]
    simp only [e_X9_widest_0, e_X9_widest_1, e_X9_widest_2, e_X9_widest_5, e_X9_widest_6, e_X9_widest_9, e_X9_widest_10, e_X9_widest_13, e_X9_widest_14, e_X9_widest_15, e_X9_widest_18, e_X9_widest_20, e_X9_widest_21, e_X9_widest_24, e_X9_widest_27, e_X9_widest_28, e_X9_widest_31, e_X9_widest_32, e_X9_widest_33, e_X9_widest_34, e_X9_widest_37, e_X9_widest_38, e_X9_widest_39, e_X9_widest_42, e_X9_widest_43, e_X9_widest_46, e_X9_widest_47, e_X9_widest_48, e_X9_widest_51, e_X9_widest_54, e_X9_widest_55, o_const, o_iload, o_aload, o_fload, o_dload, o_istore, o_astore, o_fstore, o_dstore, o_iinc, o_bin, o_div, o_un, o_i2l, o_i2f, o_i2d, o_f2d, o_fdiv, o_ddiv, o_lcmp, o_fcmp, o_dcmp, o_if, o_if2, o_goto, o_dup, o_dupx1, o_dup2, o_pop, o_getI, o_getR, o_putI, o_putR, o_iald, o_iast, o_bald, o_bast, o_zald, o_zast, o_aald, o_aast, o_jald, o_jast, o_dald, o_dast, o_alen, o_castA, o_new, o_newa, o_callv, o_callvN, o_calli, o_calls, o_objinit, o_iret, o_zret, o_fret, o_dret, o_aret, o_vret, o_throw, o_acopy, o_bcopy, o_clone, o_tsw, o_ldcS, o_kval, o_kcoder, o_klen, o_kald, o_tald, o_getSq, o_callk, o_callvH, gl, stl, stl2, pre2, va_rf, Value.category, catS, List.length_cons, List.length_nil, List.map_cons, List.map_nil, List.sum_cons, List.sum_nil, List.take_succ_cons, List.take_zero, List.drop_succ_cons, List.drop_zero, List.reverse_cons, List.reverse_nil, List.nil_append, List.cons_append, true_and, and_true, if_true, Nat.reduceAdd, Nat.reduceLT, Nat.reduceLeDiff, m1, m2, g26]
    exact ⟨fun _ => h, fun c => absurd (nI_lt (by omega) (by omega)) c⟩
  | succ r ih =>
    intro k hk
    have hih := ih (k + 1) (by omega)
    simp only [wdB, ← Nat.add_assoc] at hih
    have hwb := wdB_le f (rg + 1) (lsF f (rg + 1)) k
    have q0 : (nI (lsF f (rg + 1) + k)).toNatClampNeg = lsF f (rg + 1) + k := nI_clamp (by omega)
    have v0 : vp_in (nI (lsF f (rg + 1) + k)) 10231 := vp_in_nI (by omega) (by decide)
    have q1 : (nI (wdB f (rg + 1) (lsF f (rg + 1)) k)).toNatClampNeg = wdB f (rg + 1) (lsF f (rg + 1)) k := nI_clamp (by omega)
    have v1 : vp_in (nI (wdB f (rg + 1) (lsF f (rg + 1)) k)) 10231 := vp_in_nI (by omega) (by decide)
    have hc1 := cnW_le f (rg + 1) (lsF f (rg + 1) + k)
    have hc2 := cnW_le f (rg + 1) (wdB f (rg + 1) (lsF f (rg + 1)) k)
    rw [e_X9_widest_19]
    simp only [e_X9_widest_0, e_X9_widest_1, e_X9_widest_2, e_X9_widest_5, e_X9_widest_6, e_X9_widest_9, e_X9_widest_10, e_X9_widest_13, e_X9_widest_14, e_X9_widest_15, e_X9_widest_18, e_X9_widest_20, e_X9_widest_21, e_X9_widest_24, e_X9_widest_27, e_X9_widest_28, e_X9_widest_31, e_X9_widest_32, e_X9_widest_33, e_X9_widest_34, e_X9_widest_37, e_X9_widest_38, e_X9_widest_39, e_X9_widest_42, e_X9_widest_43, e_X9_widest_46, e_X9_widest_47, e_X9_widest_48, e_X9_widest_51, e_X9_widest_54, e_X9_widest_55, o_const, o_iload, o_aload, o_fload, o_dload, o_istore, o_astore, o_fstore, o_dstore, o_iinc, o_bin, o_div, o_un, o_i2l, o_i2f, o_i2d, o_f2d, o_fdiv, o_ddiv, o_lcmp, o_fcmp, o_dcmp, o_if, o_if2, o_goto, o_dup, o_dupx1, o_dup2, o_pop, o_getI, o_getR, o_putI, o_putR, o_iald, o_iast, o_bald, o_bast, o_zald, o_zast, o_aald, o_aast, o_jald, o_jast, o_dald, o_dast, o_alen, o_castA, o_new, o_newa, o_callv, o_callvN, o_calli, o_calls, o_objinit, o_iret, o_zret, o_fret, o_dret, o_aret, o_vret, o_throw, o_acopy, o_bcopy, o_clone, o_tsw, o_ldcS, o_kval, o_kcoder, o_klen, o_kald, o_tald, o_getSq, o_callk, o_callvH, gl, stl, stl2, pre2, va_rf, Value.category, catS, List.length_cons, List.length_nil, List.map_cons, List.map_nil, List.sum_cons, List.sum_nil, List.take_succ_cons, List.take_zero, List.drop_succ_cons, List.drop_zero, List.reverse_cons, List.reverse_nil, List.nil_append, List.cons_append, true_and, and_true, if_true, Nat.reduceAdd, Nat.reduceLT, Nat.reduceLeDiff, m1, m2, g26, b1, b2, b3, b4, q0, v0, q1, v1, gw (lsF f (rg + 1) + k) (by omega), gw (wdB f (rg + 1) (lsF f (rg + 1)) k) (by omega), nI_1]
    refine ⟨fun c => absurd ((nI_ltI (by omega) (by omega)).mp c) (by omega), fun _ => ⟨fun c => ?_, fun c => ?_⟩⟩
    · have c2 := (nI_leI (by omega) (by omega)).mp c
      rw [if_neg (by omega)] at hih
      exact hih
    · have c2 : ¬ cnW f (rg + 1) (lsF f (rg + 1) + k) ≤ cnW f (rg + 1) (wdB f (rg + 1) (lsF f (rg + 1)) k) := fun w => c (nI_le w (by omega))
      rw [if_pos (by omega)] at hih
      exact hih
theorem sp_mWidest (hM : MoR S m ad tl T eA hn H C wn Wt s0 s1) (hV : VC M C)
    (h : ∀ S', MoR S' m ad tl T eA hn H C wn Wt s0 s1 → gI S' 11 m 6 = 0 → Fr S S' (fun t _ => nM t) 0 0 → Q (.inl (some (.int (nI (rWidest C))))) S') : WG ks (d + 4) n_X9_widest [.ref m] S Q := by
  refine ⟨by simp [cat1, Value.category], by show (1 : Nat) ≤ 3; decide, ?_⟩
  show Run ks (WG ks (d + 3)) Q tb_X9_widest 0 [some (.ref m), none, none] [] S
  have hm := hM.1.1
  have hM1 := hM.f (j := 6) (v := 0) (by decide)
  simp only [e_X9_widest_0, e_X9_widest_1, e_X9_widest_2, e_X9_widest_5, e_X9_widest_6, e_X9_widest_9, e_X9_widest_10, e_X9_widest_13, e_X9_widest_14, e_X9_widest_15, e_X9_widest_18, e_X9_widest_20, e_X9_widest_21, e_X9_widest_24, e_X9_widest_27, e_X9_widest_28, e_X9_widest_31, e_X9_widest_32, e_X9_widest_33, e_X9_widest_34, e_X9_widest_37, e_X9_widest_38, e_X9_widest_39, e_X9_widest_42, e_X9_widest_43, e_X9_widest_46, e_X9_widest_47, e_X9_widest_48, e_X9_widest_51, e_X9_widest_54, e_X9_widest_55, o_const, o_iload, o_aload, o_fload, o_dload, o_istore, o_astore, o_fstore, o_dstore, o_iinc, o_bin, o_div, o_un, o_i2l, o_i2f, o_i2d, o_f2d, o_fdiv, o_ddiv, o_lcmp, o_fcmp, o_dcmp, o_if, o_if2, o_goto, o_dup, o_dupx1, o_dup2, o_pop, o_getI, o_getR, o_putI, o_putR, o_iald, o_iast, o_bald, o_bast, o_zald, o_zast, o_aald, o_aast, o_jald, o_jast, o_dald, o_dast, o_alen, o_castA, o_new, o_newa, o_callv, o_callvN, o_calli, o_calls, o_objinit, o_iret, o_zret, o_fret, o_dret, o_aret, o_vret, o_throw, o_acopy, o_bcopy, o_clone, o_tsw, o_ldcS, o_kval, o_kcoder, o_klen, o_kald, o_tald, o_getSq, o_callk, o_callvH, gl, stl, stl2, pre2, va_rf, Value.category, catS, List.length_cons, List.length_nil, List.map_cons, List.map_nil, List.sum_cons, List.sum_nil, List.take_succ_cons, List.take_zero, List.drop_succ_cons, List.drop_zero, List.reverse_cons, List.reverse_nil, List.nil_append, List.cons_append, true_and, and_true, if_true, Nat.reduceAdd, Nat.reduceLT, Nat.reduceLeDiff, hm, gL_sW, gL_sI, gL_sR, gL_sC, gL_nW, gK_sW, gK_sI, gK_sR, gK_sC, gK_nW, gN_sW, gN_sI, gN_sR, gN_sC, gN_nW, gC_sW, gC_sI, gC_sR, gC_sC, gC_nW, gZ_sW, gZ_sI, gZ_sR, gZ_sC, gZ_nW, narI, and_self]
  refine ⟨⟨m, _, rfl, rfl, hm⟩, sp_mWorksC hM1 hV ?_⟩
  intro S2 hM2 hj hRp F2
  have hm2 := hM2.1.1
  simp only [behind, e_X9_widest_0, e_X9_widest_1, e_X9_widest_2, e_X9_widest_5, e_X9_widest_6, e_X9_widest_9, e_X9_widest_10, e_X9_widest_13, e_X9_widest_14, e_X9_widest_15, e_X9_widest_18, e_X9_widest_20, e_X9_widest_21, e_X9_widest_24, e_X9_widest_27, e_X9_widest_28, e_X9_widest_31, e_X9_widest_32, e_X9_widest_33, e_X9_widest_34, e_X9_widest_37, e_X9_widest_38, e_X9_widest_39, e_X9_widest_42, e_X9_widest_43, e_X9_widest_46, e_X9_widest_47, e_X9_widest_48, e_X9_widest_51, e_X9_widest_54, e_X9_widest_55, o_const, o_iload, o_aload, o_fload, o_dload, o_istore, o_astore, o_fstore, o_dstore, o_iinc, o_bin, o_div, o_un, o_i2l, o_i2f, o_i2d, o_f2d, o_fdiv, o_ddiv, o_lcmp, o_fcmp, o_dcmp, o_if, o_if2, o_goto, o_dup, o_dupx1, o_dup2, o_pop, o_getI, o_getR, o_putI, o_putR, o_iald, o_iast, o_bald, o_bast, o_zald, o_zast, o_aald, o_aast, o_jald, o_jast, o_dald, o_dast, o_alen, o_castA, o_new, o_newa, o_callv, o_callvN, o_calli, o_calls, o_objinit, o_iret, o_zret, o_fret, o_dret, o_aret, o_vret, o_throw, o_acopy, o_bcopy, o_clone, o_tsw, o_ldcS, o_kval, o_kcoder, o_klen, o_kald, o_tald, o_getSq, o_callk, o_callvH, gl, stl, stl2, pre2, va_rf, Value.category, catS, List.length_cons, List.length_nil, List.map_cons, List.map_nil, List.sum_cons, List.sum_nil, List.take_succ_cons, List.take_zero, List.drop_succ_cons, List.drop_zero, List.reverse_cons, List.reverse_nil, List.nil_append, List.cons_append, true_and, and_true, if_true, Nat.reduceAdd, Nat.reduceLT, Nat.reduceLeDiff, hm2, hRp.1.1]
  exact sp_mWid_lp hM2.1 (rgN_le hV.1) (rcd_le hV) hRp (h S2 hM2 (by rw [hj 6 (by decide) (by decide), gI_sIk, if_pos ⟨rfl, rfl, rfl⟩]) ((nM_fr S).nM2 F2)) _ 0 (Nat.zero_add _)
end SPS
