/-! THE LAW: its loop -/
theorem hd_lt {L q : Nat} (hL : L ≤ 3072) (hq : 6 * q ≤ L) : Int32.ofNat L - 6 < nI (6 * q) ↔ L < 6 * q + 6 := by
  rcases Nat.lt_or_ge L 6 with h | h
  · have e : q = 0 := by omega
    subst e
    have k : ∀ L, L < 6 → Int32.ofNat L - 6 < nI (6 * 0) := by decide
    exact ⟨fun _ => by omega, fun _ => k L h⟩
  · have e : Int32.ofNat L - 6 = nI (L - 6) := by
      have e2 : Int32.ofNat L = nI (L - 6) + nI 6 := by
        rw [nI_add, Nat.sub_add_cancel h]; rfl
      rw [e2]
      exact Int32.add_sub_cancel (nI (L - 6)) (nI 6)
    rw [e, nI_ltI (by omega) (by omega)]
    omega
theorem li_up {S : M9} {x m ol od n : Nat} {ad : Nat → Nat} (h : LI S x m ol od ad n) : LI S x m ol od ad (n + 1) := by
  obtain ⟨M, u, v, tl, T, eA, hn', H, C, wn, Wt, s0, s1, fr, hR, hM, hB, hO, b1, b2, b3⟩ := h
  exact ⟨M, u, v, tl, T, eA, hn', H, C, wn, Wt, s0, s1, fr, hR, hM, hB, hO, by omega, by omega, by omega⟩
theorem vp_j {L q j : Nat} (h : 6 * q + j < L) (hL : L < 2 ^ 31) : vp_in (nI (6 * q) + nI j) L := by
  rw [nI_add]; exact vp_in_nI h hL
section LOOP
variable {ks : Nat → Nat} {b x m ol od L : Nat} {ad : Nat → Nat} {xs : Nat → Int32}
theorem w_loop (hks : ¬ ks 11 = ks 10) (hLn : L ≤ 3072) : ∀ (r q : Nat) (i : Int32) (S : M9) (l6 l7 l8 l9 : Option Value), i = nI (6 * q) → L < 6 * (q + r) + 6 → 6 * q ≤ L → LI S x m ol od ad q → Run ks (WG ks 100) (fun _ _ => True) (tbL b L xs) 28 [some (.ref b), some (.ref x), some (.ref m), some (.ref ol), some (.ref od), some (.int i), l6, l7, l8, l9] [] S := by
  intro r
  induction r with
  | zero =>
    intro q i S l6 l7 l8 l9 hi hr hq hL
    subst hi
    simp only [e_W_28, e_W_30, e_W_31, e_W_32, e_W_34, e_W_35, e_W_38, e_W_39, e_W_41, e_W_42, e_W_44, e_W_45, e_W_2064, e_W_2065, o_slen, o_sld, o_lret, o_const, o_iload, o_aload, o_fload, o_dload, o_istore, o_astore, o_fstore, o_dstore, o_iinc, o_bin, o_div, o_un, o_i2l, o_i2f, o_i2d, o_f2d, o_fdiv, o_ddiv, o_lcmp, o_fcmp, o_dcmp, o_if, o_if2, o_goto, o_dup, o_dupx1, o_dup2, o_pop, o_getI, o_getR, o_putI, o_putR, o_iald, o_iast, o_bald, o_bast, o_zald, o_zast, o_aald, o_aast, o_jald, o_jast, o_dald, o_dast, o_alen, o_castA, o_new, o_newa, o_callv, o_callvN, o_calli, o_calls, o_objinit, o_iret, o_zret, o_fret, o_dret, o_aret, o_vret, o_throw, o_acopy, o_bcopy, o_clone, o_tsw, o_ldcS, o_kval, o_kcoder, o_klen, o_kald, o_tald, o_getSq, o_callk, o_callvH, gl, stl, stl2, pre2, va_rf, Value.category, catS, List.length_cons, List.length_nil, List.map_cons, List.map_nil, List.sum_cons, List.sum_nil, List.take_succ_cons, List.take_zero, List.drop_succ_cons, List.drop_zero, List.reverse_cons, List.reverse_nil, List.nil_append, List.cons_append, true_and, and_true, if_true, Nat.reduceAdd, Nat.reduceLT, Nat.reduceLeDiff]
    exact ⟨fun _ => trivial, fun c => absurd ((hd_lt hLn hq).mpr (by omega)) c⟩
  | succ r ih =>
    intro q i S l6 l7 l8 l9 hi hr hq hL
    subst hi
    simp only [e_W_28, e_W_30, e_W_31, e_W_32, e_W_34, e_W_35, e_W_38, e_W_39, e_W_41, e_W_42, e_W_44, e_W_45, e_W_2064, e_W_2065, o_slen, o_sld, o_lret, o_const, o_iload, o_aload, o_fload, o_dload, o_istore, o_astore, o_fstore, o_dstore, o_iinc, o_bin, o_div, o_un, o_i2l, o_i2f, o_i2d, o_f2d, o_fdiv, o_ddiv, o_lcmp, o_fcmp, o_dcmp, o_if, o_if2, o_goto, o_dup, o_dupx1, o_dup2, o_pop, o_getI, o_getR, o_putI, o_putR, o_iald, o_iast, o_bald, o_bast, o_zald, o_zast, o_aald, o_aast, o_jald, o_jast, o_dald, o_dast, o_alen, o_castA, o_new, o_newa, o_callv, o_callvN, o_calli, o_calls, o_objinit, o_iret, o_zret, o_fret, o_dret, o_aret, o_vret, o_throw, o_acopy, o_bcopy, o_clone, o_tsw, o_ldcS, o_kval, o_kcoder, o_klen, o_kald, o_tald, o_getSq, o_callk, o_callvH, gl, stl, stl2, pre2, va_rf, Value.category, catS, List.length_cons, List.length_nil, List.map_cons, List.map_nil, List.sum_cons, List.sum_nil, List.take_succ_cons, List.take_zero, List.drop_succ_cons, List.drop_zero, List.reverse_cons, List.reverse_nil, List.nil_append, List.cons_append, true_and, and_true, if_true, Nat.reduceAdd, Nat.reduceLT, Nat.reduceLeDiff]
    refine ⟨fun _ => trivial, fun c => ?_⟩
    have hc : ¬ L < 6 * q + 6 := fun w => c ((hd_lt hLn hq).mpr w)
    have hN : ∀ S' l6 l7 l8 l9, LI S' x m ol od ad (q + 1) → Run ks (WG ks 100) (fun _ _ => True) (tbL b L xs) 28 [some (.ref b), some (.ref x), some (.ref m), some (.ref ol), some (.ref od), some (.int (nI (6 * q) + 6)), l6, l7, l8, l9] [] S' := fun S' l6 l7 l8 l9 hL' => ih (q + 1) _ S' l6 l7 l8 l9 (nI_add (6 * q) 6) (by omega) (by omega) hL'
    have hv : VS L q := ⟨by rw [nI_1]; exact vp_in_nI (by omega) (by omega), vp_j (j := 2) (by omega) (by omega), vp_j (j := 3) (by omega) (by omega), vp_j (j := 4) (by omega) (by omega), vp_j (j := 5) (by omega) (by omega)⟩
    have hq5 : q < 512 := by omega
    refine ⟨vp_in_nI (by omega) (by omega), fun k hk e => ?_, fun _ => ?_⟩
    · match k, hk with
      | 0, _ => exact w_append hks hL hq5 hv hN
      | 1, _ => exact w_load hks hL hq5 hv hN
      | 2, _ => exact w_errorPosition hks hL hq5 hv hN
      | 3, _ => exact w_count hks hL hq5 hv hN
      | 4, _ => exact w_comparator hks hL hq5 hv hN
      | 5, _ => exact w_weight hks hL hq5 hv hN
      | 6, _ => exact w_setTable hks hL hq5 hv hN
      | 7, _ => exact w_resetTable hks hL hq5 hv hN
      | 8, _ => exact w_calibrate hks hL hq5 hv hN
      | 9, _ => exact w_calibrateAll hks hL hq5 hv hN
      | 10, _ => exact w_setNoise hks hL hq5 hv hN
      | 11, _ => exact w_convert hks hL hq5 hv hN
      | 12, _ => exact w_average hks hL hq5 hv hN
      | 13, _ => exact w_quiet hks hL hq5 hv hN
      | 14, _ => exact w_spread hks hL hq5 hv hN
      | 15, _ => exact w_conversion hks hL hq5 hv hN
      | 16, _ => exact w_trial hks hL hq5 hv hN
      | 17, _ => exact w_decidedWrong hks hL hq5 hv hN
      | 18, _ => exact w_seen hks hL hq5 hv hN
      | 19, _ => exact w_seenAt hks hL hq5 hv hN
      | 20, _ => exact w_mostSeen hks hL hq5 hv hN
      | 21, _ => exact w_forget hks hL hq5 hv hN
      | 22, _ => exact w_codes hks hL hq5 hv hN
      | 23, _ => exact w_missing hks hL hq5 hv hN
      | 24, _ => exact w_missingAt hks hL hq5 hv hN
      | 25, _ => exact w_width hks hL hq5 hv hN
      | 26, _ => exact w_widest hks hL hq5 hv hN
      | 27, _ => exact w_stepsBack hks hL hq5 hv hN
      | 28, _ => exact w_worstInput hks hL hq5 hv hN
      | 29, _ => exact w_meanError hks hL hq5 hv hN
      | 30, _ => exact w_absorbs hks hL hq5 hv hN
      | 31, _ => exact w_inputFor hks hL hq5 hv hN
      | 32, _ => exact w_risingFrom hks hL hq5 hv hN
      | 33, _ => exact w_writeConversion hks hL hq5 hv hN
      | 34, _ => exact w_writtenByte hks hL hq5 hv hN
      | 35, _ => exact w_undo hks hL hq5 hv hN
      | 36, _ => exact w_save hks hL hq5 hv hN
      | 37, _ => exact w_restore hks hL hq5 hv hN
      | (k + 38), h => exact absurd h (Nat.not_lt_of_le (Nat.le_add_left 38 k))
    · simp only [e_W_2058, e_W_2061, o_const, o_iload, o_aload, o_fload, o_dload, o_istore, o_astore, o_fstore, o_dstore, o_iinc, o_bin, o_div, o_un, o_i2l, o_i2f, o_i2d, o_f2d, o_fdiv, o_ddiv, o_lcmp, o_fcmp, o_dcmp, o_if, o_if2, o_goto, o_dup, o_dupx1, o_dup2, o_pop, o_getI, o_getR, o_putI, o_putR, o_iald, o_iast, o_bald, o_bast, o_zald, o_zast, o_aald, o_aast, o_jald, o_jast, o_dald, o_dast, o_alen, o_castA, o_new, o_newa, o_callv, o_callvN, o_calli, o_calls, o_objinit, o_iret, o_zret, o_fret, o_dret, o_aret, o_vret, o_throw, o_acopy, o_bcopy, o_clone, o_tsw, o_ldcS, o_kval, o_kcoder, o_klen, o_kald, o_tald, o_getSq, o_callk, o_callvH, gl, stl, stl2, pre2, va_rf, Value.category, catS, List.length_cons, List.length_nil, List.map_cons, List.map_nil, List.sum_cons, List.sum_nil, List.take_succ_cons, List.take_zero, List.drop_succ_cons, List.drop_zero, List.reverse_cons, List.reverse_nil, List.nil_append, List.cons_append, true_and, and_true, if_true, Nat.reduceAdd, Nat.reduceLT, Nat.reduceLeDiff]
      exact hN _ _ _ _ _ (li_up hL)
end LOOP
