/-! THE MODEL: codes seen, users -/
section SPS
variable {ks : Nat → Nat} {d : Nat} {Q : QP} {S : M9} {m : Nat} {ad : Nat → Nat} {C : CSt}
theorem e691 (k : Nat) : (691 : Int32) + 2 * nI k = nI (691 + 2 * k) := by rw [cl_2mul, show (691 : Int32) = nI 691 from rfl, nI_add]
theorem sp_mSeenAll_lp (hM : MS S m ad) (hR : RowR (gI S 40 (ad 0)) 0 C) (hn : (sSn C).1 ≤ 10000) (h : Q (.inl (some (.int (nI (sg (sSn C).2.2 0 (sSn C).1))))) S) :
    ∀ r k, k + r = (sSn C).1 → Run ks (WG ks d) Q tb_X9_seenAll 4 [some (.ref m), some (.int (nI (sg (sSn C).2.2 0 k))), some (.int (nI k))] [] S := by
  have hMc := hM
  obtain ⟨⟨m1, m2⟩, ⟨a1, a2, a3, a4⟩, -⟩ := hMc
  have hR1 : gI S 40 (ad 0) 4 = nI (sSn C).1 := hR.1.2.2.2.2
  have c1 : Int32.toNatClampNeg 4 = 4 := by decide
  intro r
  induction r with
  | zero =>
    intro k hk
    rw [e_X9_seenAll_4]
    simp only [e_X9_seenAll_0, e_X9_seenAll_1, e_X9_seenAll_2, e_X9_seenAll_3, e_X9_seenAll_5, e_X9_seenAll_6, e_X9_seenAll_9, e_X9_seenAll_10, e_X9_seenAll_11, e_X9_seenAll_14, e_X9_seenAll_15, e_X9_seenAll_16, e_X9_seenAll_19, e_X9_seenAll_22, e_X9_seenAll_23, e_X9_seenAll_24, e_X9_seenAll_25, e_X9_seenAll_26, e_X9_seenAll_27, e_X9_seenAll_28, e_X9_seenAll_29, e_X9_seenAll_30, e_X9_seenAll_31, e_X9_seenAll_34, e_X9_seenAll_37, e_X9_seenAll_38, o_const, o_iload, o_aload, o_fload, o_dload, o_istore, o_astore, o_fstore, o_dstore, o_iinc, o_bin, o_div, o_un, o_i2l, o_i2f, o_i2d, o_f2d, o_fdiv, o_ddiv, o_lcmp, o_fcmp, o_dcmp, o_if, o_if2, o_goto, o_dup, o_dupx1, o_dup2, o_pop, o_getI, o_getR, o_putI, o_putR, o_iald, o_iast, o_bald, o_bast, o_zald, o_zast, o_aald, o_aast, o_jald, o_jast, o_dald, o_dast, o_alen, o_castA, o_new, o_newa, o_callv, o_callvN, o_calli, o_calls, o_objinit, o_iret, o_zret, o_fret, o_dret, o_aret, o_vret, o_throw, o_acopy, o_bcopy, o_clone, o_tsw, o_ldcS, o_kval, o_kcoder, o_klen, o_kald, o_tald, o_getSq, o_callk, o_callvH, gl, stl, stl2, pre2, va_rf, Value.category, catS, List.length_cons, List.length_nil, List.map_cons, List.map_nil, List.sum_cons, List.sum_nil, List.take_succ_cons, List.take_zero, List.drop_succ_cons, List.drop_zero, List.reverse_cons, List.reverse_nil, List.nil_append, List.cons_append, true_and, and_true, if_true, Nat.reduceAdd, Nat.reduceLT, Nat.reduceLeDiff, m1, m2, a1, a2, a3, a4, c1, hR1]
    have e : k = (sSn C).1 := by omega
    subst e
    exact ⟨vp_in_nI (n := 4) (by decide) (by decide), fun _ => h, fun c => absurd (nI_le (Nat.le_refl _) (by omega)) c⟩
  | succ r ih =>
    intro k hk
    have hih := ih (k + 1) (by omega)
    simp only [sg, Nat.zero_add] at hih
    have hc : (nI (691 + 2 * k + 1)).toNatClampNeg = 691 + 2 * k + 1 := nI_clamp (by omega)
    have hv : gI S 40 (ad 0) (691 + 2 * k + 1) = nI ((sSn C).2.2 k) := by
      have := (hR.2.2.2.2 k (by omega)).2
      rw [Nat.zero_add] at this
      exact this
    rw [e_X9_seenAll_4]
    simp only [e_X9_seenAll_0, e_X9_seenAll_1, e_X9_seenAll_2, e_X9_seenAll_3, e_X9_seenAll_5, e_X9_seenAll_6, e_X9_seenAll_9, e_X9_seenAll_10, e_X9_seenAll_11, e_X9_seenAll_14, e_X9_seenAll_15, e_X9_seenAll_16, e_X9_seenAll_19, e_X9_seenAll_22, e_X9_seenAll_23, e_X9_seenAll_24, e_X9_seenAll_25, e_X9_seenAll_26, e_X9_seenAll_27, e_X9_seenAll_28, e_X9_seenAll_29, e_X9_seenAll_30, e_X9_seenAll_31, e_X9_seenAll_34, e_X9_seenAll_37, e_X9_seenAll_38, o_const, o_iload, o_aload, o_fload, o_dload, o_istore, o_astore, o_fstore, o_dstore, o_iinc, o_bin, o_div, o_un, o_i2l, o_i2f, o_i2d, o_f2d, o_fdiv, o_ddiv, o_lcmp, o_fcmp, o_dcmp, o_if, o_if2, o_goto, o_dup, o_dupx1, o_dup2, o_pop, o_getI, o_getR, o_putI, o_putR, o_iald, o_iast, o_bald, o_bast, o_zald, o_zast, o_aald, o_aast, o_jald, o_jast, o_dald, o_dast, o_alen, o_castA, o_new, o_newa, o_callv, o_callvN, o_calli, o_calls, o_objinit, o_iret, o_zret, o_fret, o_dret, o_aret, o_vret, o_throw, o_acopy, o_bcopy, o_clone, o_tsw, o_ldcS, o_kval, o_kcoder, o_klen, o_kald, o_tald, o_getSq, o_callk, o_callvH, gl, stl, stl2, pre2, va_rf, Value.category, catS, List.length_cons, List.length_nil, List.map_cons, List.map_nil, List.sum_cons, List.sum_nil, List.take_succ_cons, List.take_zero, List.drop_succ_cons, List.drop_zero, List.reverse_cons, List.reverse_nil, List.nil_append, List.cons_append, true_and, and_true, if_true, Nat.reduceAdd, Nat.reduceLT, Nat.reduceLeDiff, m1, m2, a1, a2, a3, a4, c1, hR1, e691, nI_1, hc, hv, nI_add]
    exact ⟨vp_in_nI (n := 4) (by decide) (by decide), fun c => absurd ((nI_leI (by omega) (by omega)).mp c) (by omega), fun _ => ⟨vp_in_nI (by omega) (by decide), hih⟩⟩
theorem sp_mSeenAll (hM : MS S m ad) (hR : RowR (gI S 40 (ad 0)) 0 C) (hn : (sSn C).1 ≤ 10000) (h : Q (.inl (some (.int (nI (sg (sSn C).2.2 0 (sSn C).1))))) S) : WG ks (d + 1) n_X9_seenAll [.ref m] S Q := by
  refine ⟨by simp [cat1, Value.category], by show (1 : Nat) ≤ 3; decide, ?_⟩
  show Run ks (WG ks d) Q tb_X9_seenAll 0 [some (.ref m), none, none] [] S
  simp only [e_X9_seenAll_0, e_X9_seenAll_1, e_X9_seenAll_2, e_X9_seenAll_3, e_X9_seenAll_5, e_X9_seenAll_6, e_X9_seenAll_9, e_X9_seenAll_10, e_X9_seenAll_11, e_X9_seenAll_14, e_X9_seenAll_15, e_X9_seenAll_16, e_X9_seenAll_19, e_X9_seenAll_22, e_X9_seenAll_23, e_X9_seenAll_24, e_X9_seenAll_25, e_X9_seenAll_26, e_X9_seenAll_27, e_X9_seenAll_28, e_X9_seenAll_29, e_X9_seenAll_30, e_X9_seenAll_31, e_X9_seenAll_34, e_X9_seenAll_37, e_X9_seenAll_38, o_const, o_iload, o_aload, o_fload, o_dload, o_istore, o_astore, o_fstore, o_dstore, o_iinc, o_bin, o_div, o_un, o_i2l, o_i2f, o_i2d, o_f2d, o_fdiv, o_ddiv, o_lcmp, o_fcmp, o_dcmp, o_if, o_if2, o_goto, o_dup, o_dupx1, o_dup2, o_pop, o_getI, o_getR, o_putI, o_putR, o_iald, o_iast, o_bald, o_bast, o_zald, o_zast, o_aald, o_aast, o_jald, o_jast, o_dald, o_dast, o_alen, o_castA, o_new, o_newa, o_callv, o_callvN, o_calli, o_calls, o_objinit, o_iret, o_zret, o_fret, o_dret, o_aret, o_vret, o_throw, o_acopy, o_bcopy, o_clone, o_tsw, o_ldcS, o_kval, o_kcoder, o_klen, o_kald, o_tald, o_getSq, o_callk, o_callvH, gl, stl, stl2, pre2, va_rf, Value.category, catS, List.length_cons, List.length_nil, List.map_cons, List.map_nil, List.sum_cons, List.sum_nil, List.take_succ_cons, List.take_zero, List.drop_succ_cons, List.drop_zero, List.reverse_cons, List.reverse_nil, List.nil_append, List.cons_append, true_and, and_true, if_true, Nat.reduceAdd, Nat.reduceLT, Nat.reduceLeDiff]
  exact sp_mSeenAll_lp hM hR hn h (sSn C).1 0 (by omega)
theorem sp_mPlace_lp (hM : MS S m ad) (hR : RowR (gI S 40 (ad 0)) 0 C) (hn : (sSn C).1 ≤ 10000) {c : Int32} :
    ∀ r k, k + r = (sSn C).1 → Q (.inl (some (.int (plI (plc (sSn C).2.1 c k r))))) S → Run ks (WG ks d) Q tb_X9_placeOf 2 [some (.ref m), some (.int c), some (.int (nI k))] [] S := by
  have hMc := hM
  obtain ⟨⟨m1, m2⟩, ⟨a1, a2, a3, a4⟩, -⟩ := hMc
  have hR1 : gI S 40 (ad 0) 4 = nI (sSn C).1 := hR.1.2.2.2.2
  have c1 : Int32.toNatClampNeg 4 = 4 := by decide
  intro r
  induction r with
  | zero =>
    intro k hk h
    rw [e_X9_placeOf_2]
    simp only [e_X9_placeOf_0, e_X9_placeOf_1, e_X9_placeOf_3, e_X9_placeOf_4, e_X9_placeOf_7, e_X9_placeOf_8, e_X9_placeOf_9, e_X9_placeOf_12, e_X9_placeOf_13, e_X9_placeOf_16, e_X9_placeOf_19, e_X9_placeOf_20, e_X9_placeOf_21, e_X9_placeOf_22, e_X9_placeOf_23, e_X9_placeOf_24, e_X9_placeOf_25, e_X9_placeOf_28, e_X9_placeOf_29, e_X9_placeOf_30, e_X9_placeOf_33, e_X9_placeOf_36, e_X9_placeOf_37, o_const, o_iload, o_aload, o_fload, o_dload, o_istore, o_astore, o_fstore, o_dstore, o_iinc, o_bin, o_div, o_un, o_i2l, o_i2f, o_i2d, o_f2d, o_fdiv, o_ddiv, o_lcmp, o_fcmp, o_dcmp, o_if, o_if2, o_goto, o_dup, o_dupx1, o_dup2, o_pop, o_getI, o_getR, o_putI, o_putR, o_iald, o_iast, o_bald, o_bast, o_zald, o_zast, o_aald, o_aast, o_jald, o_jast, o_dald, o_dast, o_alen, o_castA, o_new, o_newa, o_callv, o_callvN, o_calli, o_calls, o_objinit, o_iret, o_zret, o_fret, o_dret, o_aret, o_vret, o_throw, o_acopy, o_bcopy, o_clone, o_tsw, o_ldcS, o_kval, o_kcoder, o_klen, o_kald, o_tald, o_getSq, o_callk, o_callvH, gl, stl, stl2, pre2, va_rf, Value.category, catS, List.length_cons, List.length_nil, List.map_cons, List.map_nil, List.sum_cons, List.sum_nil, List.take_succ_cons, List.take_zero, List.drop_succ_cons, List.drop_zero, List.reverse_cons, List.reverse_nil, List.nil_append, List.cons_append, true_and, and_true, if_true, Nat.reduceAdd, Nat.reduceLT, Nat.reduceLeDiff, m1, m2, a1, a2, a3, a4, c1, hR1]
    have e : k = (sSn C).1 := by omega
    subst e
    exact ⟨vp_in_nI (n := 4) (by decide) (by decide), fun _ => h, fun z => absurd (nI_le (Nat.le_refl _) (by omega)) z⟩
  | succ r ih =>
    intro k hk h
    simp only [plc] at h
    have hc : (nI (691 + 2 * k)).toNatClampNeg = 691 + 2 * k := nI_clamp (by omega)
    have hv : gI S 40 (ad 0) (691 + 2 * k) = nI ((sSn C).2.1 k) := by
      have := (hR.2.2.2.2 k (by omega)).1
      rw [Nat.zero_add] at this
      exact this
    rw [e_X9_placeOf_2]
    simp only [e_X9_placeOf_0, e_X9_placeOf_1, e_X9_placeOf_3, e_X9_placeOf_4, e_X9_placeOf_7, e_X9_placeOf_8, e_X9_placeOf_9, e_X9_placeOf_12, e_X9_placeOf_13, e_X9_placeOf_16, e_X9_placeOf_19, e_X9_placeOf_20, e_X9_placeOf_21, e_X9_placeOf_22, e_X9_placeOf_23, e_X9_placeOf_24, e_X9_placeOf_25, e_X9_placeOf_28, e_X9_placeOf_29, e_X9_placeOf_30, e_X9_placeOf_33, e_X9_placeOf_36, e_X9_placeOf_37, o_const, o_iload, o_aload, o_fload, o_dload, o_istore, o_astore, o_fstore, o_dstore, o_iinc, o_bin, o_div, o_un, o_i2l, o_i2f, o_i2d, o_f2d, o_fdiv, o_ddiv, o_lcmp, o_fcmp, o_dcmp, o_if, o_if2, o_goto, o_dup, o_dupx1, o_dup2, o_pop, o_getI, o_getR, o_putI, o_putR, o_iald, o_iast, o_bald, o_bast, o_zald, o_zast, o_aald, o_aast, o_jald, o_jast, o_dald, o_dast, o_alen, o_castA, o_new, o_newa, o_callv, o_callvN, o_calli, o_calls, o_objinit, o_iret, o_zret, o_fret, o_dret, o_aret, o_vret, o_throw, o_acopy, o_bcopy, o_clone, o_tsw, o_ldcS, o_kval, o_kcoder, o_klen, o_kald, o_tald, o_getSq, o_callk, o_callvH, gl, stl, stl2, pre2, va_rf, Value.category, catS, List.length_cons, List.length_nil, List.map_cons, List.map_nil, List.sum_cons, List.sum_nil, List.take_succ_cons, List.take_zero, List.drop_succ_cons, List.drop_zero, List.reverse_cons, List.reverse_nil, List.nil_append, List.cons_append, true_and, and_true, if_true, Nat.reduceAdd, Nat.reduceLT, Nat.reduceLeDiff, m1, m2, a1, a2, a3, a4, c1, hR1, e691, hc, hv, nI_1]
    refine ⟨vp_in_nI (n := 4) (by decide) (by decide), fun z => absurd ((nI_leI (by omega) (by omega)).mp z) (by omega), fun _ => ⟨vp_in_nI (by omega) (by decide), fun z => ?_, fun z => ?_⟩⟩
    · rw [if_neg z] at h
      exact ih (k + 1) (by omega) h
    · rw [if_pos (Classical.not_not.mp z)] at h
      exact h
theorem sp_mPlace (hM : MS S m ad) (hR : RowR (gI S 40 (ad 0)) 0 C) (hn : (sSn C).1 ≤ 10000) {c : Int32} (h : Q (.inl (some (.int (plI (plc (sSn C).2.1 c 0 (sSn C).1))))) S) : WG ks (d + 1) n_X9_placeOf [.ref m, .int c] S Q := by
  refine ⟨by simp [cat1, Value.category], by show (2 : Nat) ≤ 3; decide, ?_⟩
  show Run ks (WG ks d) Q tb_X9_placeOf 0 [some (.ref m), some (.int c), none] [] S
  simp only [e_X9_placeOf_0, e_X9_placeOf_1, e_X9_placeOf_3, e_X9_placeOf_4, e_X9_placeOf_7, e_X9_placeOf_8, e_X9_placeOf_9, e_X9_placeOf_12, e_X9_placeOf_13, e_X9_placeOf_16, e_X9_placeOf_19, e_X9_placeOf_20, e_X9_placeOf_21, e_X9_placeOf_22, e_X9_placeOf_23, e_X9_placeOf_24, e_X9_placeOf_25, e_X9_placeOf_28, e_X9_placeOf_29, e_X9_placeOf_30, e_X9_placeOf_33, e_X9_placeOf_36, e_X9_placeOf_37, o_const, o_iload, o_aload, o_fload, o_dload, o_istore, o_astore, o_fstore, o_dstore, o_iinc, o_bin, o_div, o_un, o_i2l, o_i2f, o_i2d, o_f2d, o_fdiv, o_ddiv, o_lcmp, o_fcmp, o_dcmp, o_if, o_if2, o_goto, o_dup, o_dupx1, o_dup2, o_pop, o_getI, o_getR, o_putI, o_putR, o_iald, o_iast, o_bald, o_bast, o_zald, o_zast, o_aald, o_aast, o_jald, o_jast, o_dald, o_dast, o_alen, o_castA, o_new, o_newa, o_callv, o_callvN, o_calli, o_calls, o_objinit, o_iret, o_zret, o_fret, o_dret, o_aret, o_vret, o_throw, o_acopy, o_bcopy, o_clone, o_tsw, o_ldcS, o_kval, o_kcoder, o_klen, o_kald, o_tald, o_getSq, o_callk, o_callvH, gl, stl, stl2, pre2, va_rf, Value.category, catS, List.length_cons, List.length_nil, List.map_cons, List.map_nil, List.sum_cons, List.sum_nil, List.take_succ_cons, List.take_zero, List.drop_succ_cons, List.drop_zero, List.reverse_cons, List.reverse_nil, List.nil_append, List.cons_append, true_and, and_true, if_true, Nat.reduceAdd, Nat.reduceLT, Nat.reduceLeDiff]
  exact sp_mPlace_lp hM hR hn (sSn C).1 0 (by omega) h
theorem sp_mUsers_lp (hM : MS S m ad) (hR : RowR (gI S 40 (ad 0)) 0 C) (hV : SetV (sSet C)) {c : Int32} (h : Q (.inl (some (.int (nI (sg (cuF (sSet C) c) 0 (aWm (sSet C))))))) S) :
    ∀ r k, k + r = aWm (sSet C) → Run ks (WG ks d) Q tb_X9_usersOf 4 [some (.ref m), some (.int c), some (.int (nI (sg (cuF (sSet C) c) 0 k))), some (.int (nI k))] [] S := by
  have hMc := hM
  obtain ⟨⟨m1, m2⟩, ⟨a1, a2, a3, a4⟩, -⟩ := hMc
  have hw10 := hV.2.1.2
  have hR1 : gI S 40 (ad 0) 1 = nI (aWm (sSet C)) := hR.1.2.1
  have c1 : Int32.toNatClampNeg 1 = 1 := by decide
  intro r
  induction r with
  | zero =>
    intro k hk
    rw [e_X9_usersOf_4]
    simp only [e_X9_usersOf_0, e_X9_usersOf_1, e_X9_usersOf_2, e_X9_usersOf_3, e_X9_usersOf_5, e_X9_usersOf_6, e_X9_usersOf_9, e_X9_usersOf_10, e_X9_usersOf_11, e_X9_usersOf_14, e_X9_usersOf_15, e_X9_usersOf_16, e_X9_usersOf_19, e_X9_usersOf_21, e_X9_usersOf_22, e_X9_usersOf_23, e_X9_usersOf_24, e_X9_usersOf_25, e_X9_usersOf_28, e_X9_usersOf_29, e_X9_usersOf_32, e_X9_usersOf_33, e_X9_usersOf_34, e_X9_usersOf_35, e_X9_usersOf_38, e_X9_usersOf_41, e_X9_usersOf_42, o_const, o_iload, o_aload, o_fload, o_dload, o_istore, o_astore, o_fstore, o_dstore, o_iinc, o_bin, o_div, o_un, o_i2l, o_i2f, o_i2d, o_f2d, o_fdiv, o_ddiv, o_lcmp, o_fcmp, o_dcmp, o_if, o_if2, o_goto, o_dup, o_dupx1, o_dup2, o_pop, o_getI, o_getR, o_putI, o_putR, o_iald, o_iast, o_bald, o_bast, o_zald, o_zast, o_aald, o_aast, o_jald, o_jast, o_dald, o_dast, o_alen, o_castA, o_new, o_newa, o_callv, o_callvN, o_calli, o_calls, o_objinit, o_iret, o_zret, o_fret, o_dret, o_aret, o_vret, o_throw, o_acopy, o_bcopy, o_clone, o_tsw, o_ldcS, o_kval, o_kcoder, o_klen, o_kald, o_tald, o_getSq, o_callk, o_callvH, gl, stl, stl2, pre2, va_rf, Value.category, catS, List.length_cons, List.length_nil, List.map_cons, List.map_nil, List.sum_cons, List.sum_nil, List.take_succ_cons, List.take_zero, List.drop_succ_cons, List.drop_zero, List.reverse_cons, List.reverse_nil, List.nil_append, List.cons_append, true_and, and_true, if_true, Nat.reduceAdd, Nat.reduceLT, Nat.reduceLeDiff, m1, m2, a1, a2, a3, a4, c1, hR1]
    have e : k = aWm (sSet C) := by omega
    subst e
    exact ⟨vp_in_nI (n := 1) (by decide) (by decide), fun _ => h, fun z => absurd (nI_le (Nat.le_refl _) (by omega)) z⟩
  | succ r ih =>
    intro k hk
    have hih := ih (k + 1) (by omega)
    simp only [sg, cuF, Nat.zero_add] at hih
    have e31 : (31 : Int32) + nI k = nI (31 + k) := by rw [show (31 : Int32) = nI 31 from rfl, nI_add]
    have hc : (nI (31 + k)).toNatClampNeg = 31 + k := nI_clamp (by omega)
    have hv : gI S 40 (ad 0) (31 + k) = nI (aUs (sSet C) k) := by
      have := (hR.2.2.1 k (by omega)).2.2.1
      rw [Nat.zero_add] at this
      exact this
    rw [e_X9_usersOf_4]
    simp only [e_X9_usersOf_0, e_X9_usersOf_1, e_X9_usersOf_2, e_X9_usersOf_3, e_X9_usersOf_5, e_X9_usersOf_6, e_X9_usersOf_9, e_X9_usersOf_10, e_X9_usersOf_11, e_X9_usersOf_14, e_X9_usersOf_15, e_X9_usersOf_16, e_X9_usersOf_19, e_X9_usersOf_21, e_X9_usersOf_22, e_X9_usersOf_23, e_X9_usersOf_24, e_X9_usersOf_25, e_X9_usersOf_28, e_X9_usersOf_29, e_X9_usersOf_32, e_X9_usersOf_33, e_X9_usersOf_34, e_X9_usersOf_35, e_X9_usersOf_38, e_X9_usersOf_41, e_X9_usersOf_42, o_const, o_iload, o_aload, o_fload, o_dload, o_istore, o_astore, o_fstore, o_dstore, o_iinc, o_bin, o_div, o_un, o_i2l, o_i2f, o_i2d, o_f2d, o_fdiv, o_ddiv, o_lcmp, o_fcmp, o_dcmp, o_if, o_if2, o_goto, o_dup, o_dupx1, o_dup2, o_pop, o_getI, o_getR, o_putI, o_putR, o_iald, o_iast, o_bald, o_bast, o_zald, o_zast, o_aald, o_aast, o_jald, o_jast, o_dald, o_dast, o_alen, o_castA, o_new, o_newa, o_callv, o_callvN, o_calli, o_calls, o_objinit, o_iret, o_zret, o_fret, o_dret, o_aret, o_vret, o_throw, o_acopy, o_bcopy, o_clone, o_tsw, o_ldcS, o_kval, o_kcoder, o_klen, o_kald, o_tald, o_getSq, o_callk, o_callvH, gl, stl, stl2, pre2, va_rf, Value.category, catS, List.length_cons, List.length_nil, List.map_cons, List.map_nil, List.sum_cons, List.sum_nil, List.take_succ_cons, List.take_zero, List.drop_succ_cons, List.drop_zero, List.reverse_cons, List.reverse_nil, List.nil_append, List.cons_append, true_and, and_true, if_true, Nat.reduceAdd, Nat.reduceLT, Nat.reduceLeDiff, m1, m2, a1, a2, a3, a4, c1, hR1, e31, hc, hv, nI_1, nI_z]
    refine ⟨vp_in_nI (n := 1) (by decide) (by decide), fun z => absurd ((nI_leI (by omega) (by omega)).mp z) (by omega), fun _ => ⟨vp_in_nI (by omega) (by decide), fun z => ?_, fun z => ?_⟩⟩
    · rw [if_neg z] at hih
      exact hih
    · rw [if_pos (Classical.not_not.mp z)] at hih
      exact hih
theorem sp_mUsers (hM : MS S m ad) (hR : RowR (gI S 40 (ad 0)) 0 C) (hV : SetV (sSet C)) {c : Int32} (h : Q (.inl (some (.int (nI (sg (cuF (sSet C) c) 0 (aWm (sSet C))))))) S) : WG ks (d + 1) n_X9_usersOf [.ref m, .int c] S Q := by
  refine ⟨by simp [cat1, Value.category], by show (2 : Nat) ≤ 4; decide, ?_⟩
  show Run ks (WG ks d) Q tb_X9_usersOf 0 [some (.ref m), some (.int c), none, none] [] S
  simp only [e_X9_usersOf_0, e_X9_usersOf_1, e_X9_usersOf_2, e_X9_usersOf_3, e_X9_usersOf_5, e_X9_usersOf_6, e_X9_usersOf_9, e_X9_usersOf_10, e_X9_usersOf_11, e_X9_usersOf_14, e_X9_usersOf_15, e_X9_usersOf_16, e_X9_usersOf_19, e_X9_usersOf_21, e_X9_usersOf_22, e_X9_usersOf_23, e_X9_usersOf_24, e_X9_usersOf_25, e_X9_usersOf_28, e_X9_usersOf_29, e_X9_usersOf_32, e_X9_usersOf_33, e_X9_usersOf_34, e_X9_usersOf_35, e_X9_usersOf_38, e_X9_usersOf_41, e_X9_usersOf_42, o_const, o_iload, o_aload, o_fload, o_dload, o_istore, o_astore, o_fstore, o_dstore, o_iinc, o_bin, o_div, o_un, o_i2l, o_i2f, o_i2d, o_f2d, o_fdiv, o_ddiv, o_lcmp, o_fcmp, o_dcmp, o_if, o_if2, o_goto, o_dup, o_dupx1, o_dup2, o_pop, o_getI, o_getR, o_putI, o_putR, o_iald, o_iast, o_bald, o_bast, o_zald, o_zast, o_aald, o_aast, o_jald, o_jast, o_dald, o_dast, o_alen, o_castA, o_new, o_newa, o_callv, o_callvN, o_calli, o_calls, o_objinit, o_iret, o_zret, o_fret, o_dret, o_aret, o_vret, o_throw, o_acopy, o_bcopy, o_clone, o_tsw, o_ldcS, o_kval, o_kcoder, o_klen, o_kald, o_tald, o_getSq, o_callk, o_callvH, gl, stl, stl2, pre2, va_rf, Value.category, catS, List.length_cons, List.length_nil, List.map_cons, List.map_nil, List.sum_cons, List.sum_nil, List.take_succ_cons, List.take_zero, List.drop_succ_cons, List.drop_zero, List.reverse_cons, List.reverse_nil, List.nil_append, List.cons_append, true_and, and_true, if_true, Nat.reduceAdd, Nat.reduceLT, Nat.reduceLeDiff]
  exact sp_mUsers_lp hM hR hV h (aWm (sSet C)) 0 (by omega)
end SPS
