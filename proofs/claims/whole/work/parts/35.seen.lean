/-! THE CODES SEEN -/
/-- n codes cd, their times tm, in arrays of length L and kinds kc, kt -/
def SeenR (S : M9) (q kc kt n L : Nat) (cd tm : Nat → Nat) : Prop := ∃ c t : Nat, q ∈ gL S ∧ gK S q = 6 ∧ gI S 6 q 2 = nI n ∧ n ≤ L ∧ (16 ≤ L ∧ L ≤ 20000) ∧ (17 ≤ kc ∧ 17 ≤ kt ∧ ¬ kc = kt) ∧ gR S 6 q 0 = some c ∧ gR S 6 q 1 = some t ∧ (c ∈ gL S ∧ gK S c = kc ∧ gN S c = L ∧ ∀ k, k < n → gI S kc c k = nI (cd k)) ∧ (t ∈ gL S ∧ gK S t = kt ∧ gN S t = L ∧ ∀ k, k < n → gI S kt t k = nI (tm k))
/-- the first of r places from m on with this code -/
def plc (cd : Nat → Nat) (c : Int32) (m : Nat) : Nat → Option Nat
  | 0 => none
  | r + 1 => if nI (cd m) = c then some m else plc cd c (m + 1) r
def plI : Option Nat → Int32
  | none => -1
  | some k => nI k
/-- the place of the most often seen of m + 1 codes -/
def mst (tm : Nat → Nat) : Nat → Nat
  | 0 => 0
  | m + 1 => if tm (m + 1) ≤ tm (mst tm m) then mst tm m else m + 1
theorem plc_lt {cd : Nat → Nat} {c : Int32} : ∀ (r m k : Nat), plc cd c m r = some k → m ≤ k ∧ k < m + r := by
  intro r
  induction r with
  | zero => intro m k h; cases h
  | succ r ih =>
    intro m k h
    unfold plc at h
    by_cases e : nI (cd m) = c
    · rw [if_pos e] at h; cases h; omega
    · rw [if_neg e] at h
      have := ih _ _ h
      omega
theorem mst_le (tm : Nat → Nat) : ∀ m, mst tm m ≤ m := by
  intro m
  induction m with
  | zero => exact Nat.le_refl _
  | succ m ih =>
    unfold mst
    by_cases e : tm (m + 1) ≤ tm (mst tm m)
    · rw [if_pos e]; omega
    · rw [if_neg e]; exact Nat.le_refl _
section SPS
variable {ks : Nat → Nat} {d : Nat} {Q : QP} {S : M9} {q kc kt n L : Nat} {cd tm : Nat → Nat}
theorem sp_placeOf_lp (hR : SeenR S q kc kt n L cd tm) {c : Int32} : ∀ r m, m + r = n → Q (.inl (some (.int (plI (plc cd c m r))))) S → Run ks (WG ks d) Q tb_X4_placeOf 2 [some (.ref q), some (.int c), some (.int (nI m))] [] S := by
  obtain ⟨c6, t6, sq1, sq2, sq3, sq4, sq5, sq6, sq7, sq8, ⟨sc1, sc2, sc3, sc4⟩, ⟨st1, st2, st3, st4⟩⟩ := hR
  intro r
  induction r with
  | zero =>
    intro m hm h
    rw [e_X4_placeOf_2]
    simp only [e_X4_placeOf_0, e_X4_placeOf_1, e_X4_placeOf_3, e_X4_placeOf_4, e_X4_placeOf_7, e_X4_placeOf_10, e_X4_placeOf_11, e_X4_placeOf_14, e_X4_placeOf_15, e_X4_placeOf_16, e_X4_placeOf_17, e_X4_placeOf_20, e_X4_placeOf_21, e_X4_placeOf_22, e_X4_placeOf_25, e_X4_placeOf_28, e_X4_placeOf_29, o_const, o_iload, o_aload, o_fload, o_dload, o_istore, o_astore, o_fstore, o_dstore, o_iinc, o_bin, o_div, o_un, o_i2l, o_i2f, o_i2d, o_f2d, o_fdiv, o_ddiv, o_lcmp, o_fcmp, o_dcmp, o_if, o_if2, o_goto, o_dup, o_dupx1, o_dup2, o_pop, o_getI, o_getR, o_putI, o_putR, o_iald, o_iast, o_bald, o_bast, o_zald, o_zast, o_aald, o_aast, o_jald, o_jast, o_dald, o_dast, o_alen, o_castA, o_new, o_newa, o_callv, o_callvN, o_calli, o_calls, o_objinit, o_iret, o_zret, o_fret, o_dret, o_aret, o_vret, o_throw, o_acopy, o_bcopy, o_clone, o_tsw, o_ldcS, o_kval, o_kcoder, o_klen, o_kald, o_tald, o_getSq, o_callk, o_callvH, gl, stl, stl2, pre2, va_rf, Value.category, catS, List.length_cons, List.length_nil, List.map_cons, List.map_nil, List.sum_cons, List.sum_nil, List.take_succ_cons, List.take_zero, List.drop_succ_cons, List.drop_zero, List.reverse_cons, List.reverse_nil, List.nil_append, List.cons_append, true_and, and_true, Nat.reduceAdd, Nat.reduceLT, Nat.reduceLeDiff, sq1, sq2, sq3, sq7, sq8, sc1, sc2, sc3, st1, st2, st3, nI_leI (show n < 2 ^ 31 by omega) (show m < 2 ^ 31 by omega)]
    exact ⟨fun _ => h, fun c => (c (by omega)).elim⟩
  | succ r ih =>
    intro m hm h
    rw [e_X4_placeOf_2]
    simp only [e_X4_placeOf_0, e_X4_placeOf_1, e_X4_placeOf_3, e_X4_placeOf_4, e_X4_placeOf_7, e_X4_placeOf_10, e_X4_placeOf_11, e_X4_placeOf_14, e_X4_placeOf_15, e_X4_placeOf_16, e_X4_placeOf_17, e_X4_placeOf_20, e_X4_placeOf_21, e_X4_placeOf_22, e_X4_placeOf_25, e_X4_placeOf_28, e_X4_placeOf_29, o_const, o_iload, o_aload, o_fload, o_dload, o_istore, o_astore, o_fstore, o_dstore, o_iinc, o_bin, o_div, o_un, o_i2l, o_i2f, o_i2d, o_f2d, o_fdiv, o_ddiv, o_lcmp, o_fcmp, o_dcmp, o_if, o_if2, o_goto, o_dup, o_dupx1, o_dup2, o_pop, o_getI, o_getR, o_putI, o_putR, o_iald, o_iast, o_bald, o_bast, o_zald, o_zast, o_aald, o_aast, o_jald, o_jast, o_dald, o_dast, o_alen, o_castA, o_new, o_newa, o_callv, o_callvN, o_calli, o_calls, o_objinit, o_iret, o_zret, o_fret, o_dret, o_aret, o_vret, o_throw, o_acopy, o_bcopy, o_clone, o_tsw, o_ldcS, o_kval, o_kcoder, o_klen, o_kald, o_tald, o_getSq, o_callk, o_callvH, gl, stl, stl2, pre2, va_rf, Value.category, catS, List.length_cons, List.length_nil, List.map_cons, List.map_nil, List.sum_cons, List.sum_nil, List.take_succ_cons, List.take_zero, List.drop_succ_cons, List.drop_zero, List.reverse_cons, List.reverse_nil, List.nil_append, List.cons_append, true_and, and_true, Nat.reduceAdd, Nat.reduceLT, Nat.reduceLeDiff, sq1, sq2, sq3, sq7, sq8, sc1, sc2, sc3, st1, st2, st3, nI_leI (show n < 2 ^ 31 by omega) (show m < 2 ^ 31 by omega), nI_clamp (show m < 2 ^ 31 by omega), sc4 m (by omega), nI_1]
    unfold plc at h
    refine ⟨fun c => absurd c (by omega), fun _ => ⟨sq6.1, vp_in_nI (by omega) (by omega), fun c9 => ?_, fun c9 => ?_⟩⟩
    · rw [if_neg c9] at h
      exact ih (m + 1) (by omega) h
    · rw [if_pos (Classical.not_not.mp c9)] at h
      exact h
theorem sp_placeOf (hR : SeenR S q kc kt n L cd tm) {c : Int32} (h : Q (.inl (some (.int (plI (plc cd c 0 n))))) S) : WG ks (d + 1) n_X4_placeOf [.ref q, .int c] S Q := by
  refine ⟨by simp [cat1, Value.category], by show (2 : Nat) ≤ 3; decide, ?_⟩
  show Run ks (WG ks d) Q tb_X4_placeOf 0 [some (.ref q), some (.int c), none] [] S
  simp only [e_X4_placeOf_0, e_X4_placeOf_1, e_X4_placeOf_3, e_X4_placeOf_4, e_X4_placeOf_7, e_X4_placeOf_10, e_X4_placeOf_11, e_X4_placeOf_14, e_X4_placeOf_15, e_X4_placeOf_16, e_X4_placeOf_17, e_X4_placeOf_20, e_X4_placeOf_21, e_X4_placeOf_22, e_X4_placeOf_25, e_X4_placeOf_28, e_X4_placeOf_29, o_const, o_iload, o_aload, o_fload, o_dload, o_istore, o_astore, o_fstore, o_dstore, o_iinc, o_bin, o_div, o_un, o_i2l, o_i2f, o_i2d, o_f2d, o_fdiv, o_ddiv, o_lcmp, o_fcmp, o_dcmp, o_if, o_if2, o_goto, o_dup, o_dupx1, o_dup2, o_pop, o_getI, o_getR, o_putI, o_putR, o_iald, o_iast, o_bald, o_bast, o_zald, o_zast, o_aald, o_aast, o_jald, o_jast, o_dald, o_dast, o_alen, o_castA, o_new, o_newa, o_callv, o_callvN, o_calli, o_calls, o_objinit, o_iret, o_zret, o_fret, o_dret, o_aret, o_vret, o_throw, o_acopy, o_bcopy, o_clone, o_tsw, o_ldcS, o_kval, o_kcoder, o_klen, o_kald, o_tald, o_getSq, o_callk, o_callvH, gl, stl, stl2, pre2, va_rf, Value.category, catS, List.length_cons, List.length_nil, List.map_cons, List.map_nil, List.sum_cons, List.sum_nil, List.take_succ_cons, List.take_zero, List.drop_succ_cons, List.drop_zero, List.reverse_cons, List.reverse_nil, List.nil_append, List.cons_append, true_and, and_true, Nat.reduceAdd, Nat.reduceLT, Nat.reduceLeDiff]
  exact sp_placeOf_lp hR n 0 (by omega) h
theorem sp_timesTogether_lp (hR : SeenR S q kc kt n L cd tm) (h : Q (.inl (some (.int (nI (sg tm 0 n))))) S) : ∀ r m, m + r = n → Run ks (WG ks d) Q tb_X4_timesTogether 4 [some (.ref q), some (.int (nI (sg tm 0 m))), some (.int (nI m))] [] S := by
  obtain ⟨c6, t6, sq1, sq2, sq3, sq4, sq5, sq6, sq7, sq8, ⟨sc1, sc2, sc3, sc4⟩, ⟨st1, st2, st3, st4⟩⟩ := hR
  intro r
  induction r with
  | zero =>
    intro m hm
    rw [e_X4_timesTogether_4]
    simp only [e_X4_timesTogether_0, e_X4_timesTogether_1, e_X4_timesTogether_2, e_X4_timesTogether_3, e_X4_timesTogether_5, e_X4_timesTogether_6, e_X4_timesTogether_9, e_X4_timesTogether_12, e_X4_timesTogether_13, e_X4_timesTogether_14, e_X4_timesTogether_17, e_X4_timesTogether_18, e_X4_timesTogether_19, e_X4_timesTogether_20, e_X4_timesTogether_21, e_X4_timesTogether_24, e_X4_timesTogether_27, e_X4_timesTogether_28, o_const, o_iload, o_aload, o_fload, o_dload, o_istore, o_astore, o_fstore, o_dstore, o_iinc, o_bin, o_div, o_un, o_i2l, o_i2f, o_i2d, o_f2d, o_fdiv, o_ddiv, o_lcmp, o_fcmp, o_dcmp, o_if, o_if2, o_goto, o_dup, o_dupx1, o_dup2, o_pop, o_getI, o_getR, o_putI, o_putR, o_iald, o_iast, o_bald, o_bast, o_zald, o_zast, o_aald, o_aast, o_jald, o_jast, o_dald, o_dast, o_alen, o_castA, o_new, o_newa, o_callv, o_callvN, o_calli, o_calls, o_objinit, o_iret, o_zret, o_fret, o_dret, o_aret, o_vret, o_throw, o_acopy, o_bcopy, o_clone, o_tsw, o_ldcS, o_kval, o_kcoder, o_klen, o_kald, o_tald, o_getSq, o_callk, o_callvH, gl, stl, stl2, pre2, va_rf, Value.category, catS, List.length_cons, List.length_nil, List.map_cons, List.map_nil, List.sum_cons, List.sum_nil, List.take_succ_cons, List.take_zero, List.drop_succ_cons, List.drop_zero, List.reverse_cons, List.reverse_nil, List.nil_append, List.cons_append, true_and, and_true, Nat.reduceAdd, Nat.reduceLT, Nat.reduceLeDiff, sq1, sq2, sq3, sq7, sq8, sc1, sc2, sc3, st1, st2, st3, nI_leI (show n < 2 ^ 31 by omega) (show m < 2 ^ 31 by omega)]
    have e : m = n := by omega
    subst e
    exact ⟨fun _ => h, fun c => (c (by omega)).elim⟩
  | succ r ih =>
    intro m hm
    rw [e_X4_timesTogether_4]
    have hih := ih (m + 1) (by omega)
    simp only [sg, Nat.zero_add] at hih
    simp only [e_X4_timesTogether_0, e_X4_timesTogether_1, e_X4_timesTogether_2, e_X4_timesTogether_3, e_X4_timesTogether_5, e_X4_timesTogether_6, e_X4_timesTogether_9, e_X4_timesTogether_12, e_X4_timesTogether_13, e_X4_timesTogether_14, e_X4_timesTogether_17, e_X4_timesTogether_18, e_X4_timesTogether_19, e_X4_timesTogether_20, e_X4_timesTogether_21, e_X4_timesTogether_24, e_X4_timesTogether_27, e_X4_timesTogether_28, o_const, o_iload, o_aload, o_fload, o_dload, o_istore, o_astore, o_fstore, o_dstore, o_iinc, o_bin, o_div, o_un, o_i2l, o_i2f, o_i2d, o_f2d, o_fdiv, o_ddiv, o_lcmp, o_fcmp, o_dcmp, o_if, o_if2, o_goto, o_dup, o_dupx1, o_dup2, o_pop, o_getI, o_getR, o_putI, o_putR, o_iald, o_iast, o_bald, o_bast, o_zald, o_zast, o_aald, o_aast, o_jald, o_jast, o_dald, o_dast, o_alen, o_castA, o_new, o_newa, o_callv, o_callvN, o_calli, o_calls, o_objinit, o_iret, o_zret, o_fret, o_dret, o_aret, o_vret, o_throw, o_acopy, o_bcopy, o_clone, o_tsw, o_ldcS, o_kval, o_kcoder, o_klen, o_kald, o_tald, o_getSq, o_callk, o_callvH, gl, stl, stl2, pre2, va_rf, Value.category, catS, List.length_cons, List.length_nil, List.map_cons, List.map_nil, List.sum_cons, List.sum_nil, List.take_succ_cons, List.take_zero, List.drop_succ_cons, List.drop_zero, List.reverse_cons, List.reverse_nil, List.nil_append, List.cons_append, true_and, and_true, Nat.reduceAdd, Nat.reduceLT, Nat.reduceLeDiff, sq1, sq2, sq3, sq7, sq8, sc1, sc2, sc3, st1, st2, st3, nI_leI (show n < 2 ^ 31 by omega) (show m < 2 ^ 31 by omega), nI_clamp (show m < 2 ^ 31 by omega), st4 m (by omega), nI_1, nI_add]
    exact ⟨fun c => absurd c (by omega), fun _ => ⟨sq6.2.1, vp_in_nI (by omega) (by omega), hih⟩⟩
theorem sp_timesTogether (hR : SeenR S q kc kt n L cd tm) (h : Q (.inl (some (.int (nI (sg tm 0 n))))) S) : WG ks (d + 1) n_X4_timesTogether [.ref q] S Q := by
  refine ⟨by simp [cat1, Value.category], by show (1 : Nat) ≤ 3; decide, ?_⟩
  show Run ks (WG ks d) Q tb_X4_timesTogether 0 [some (.ref q), none, none] [] S
  simp only [e_X4_timesTogether_0, e_X4_timesTogether_1, e_X4_timesTogether_2, e_X4_timesTogether_3, e_X4_timesTogether_5, e_X4_timesTogether_6, e_X4_timesTogether_9, e_X4_timesTogether_12, e_X4_timesTogether_13, e_X4_timesTogether_14, e_X4_timesTogether_17, e_X4_timesTogether_18, e_X4_timesTogether_19, e_X4_timesTogether_20, e_X4_timesTogether_21, e_X4_timesTogether_24, e_X4_timesTogether_27, e_X4_timesTogether_28, o_const, o_iload, o_aload, o_fload, o_dload, o_istore, o_astore, o_fstore, o_dstore, o_iinc, o_bin, o_div, o_un, o_i2l, o_i2f, o_i2d, o_f2d, o_fdiv, o_ddiv, o_lcmp, o_fcmp, o_dcmp, o_if, o_if2, o_goto, o_dup, o_dupx1, o_dup2, o_pop, o_getI, o_getR, o_putI, o_putR, o_iald, o_iast, o_bald, o_bast, o_zald, o_zast, o_aald, o_aast, o_jald, o_jast, o_dald, o_dast, o_alen, o_castA, o_new, o_newa, o_callv, o_callvN, o_calli, o_calls, o_objinit, o_iret, o_zret, o_fret, o_dret, o_aret, o_vret, o_throw, o_acopy, o_bcopy, o_clone, o_tsw, o_ldcS, o_kval, o_kcoder, o_klen, o_kald, o_tald, o_getSq, o_callk, o_callvH, gl, stl, stl2, pre2, va_rf, Value.category, catS, List.length_cons, List.length_nil, List.map_cons, List.map_nil, List.sum_cons, List.sum_nil, List.take_succ_cons, List.take_zero, List.drop_succ_cons, List.drop_zero, List.reverse_cons, List.reverse_nil, List.nil_append, List.cons_append, true_and, and_true, Nat.reduceAdd, Nat.reduceLT, Nat.reduceLeDiff]
  exact sp_timesTogether_lp hR h n 0 (by omega)
theorem sp_mostOften_lp (hR : SeenR S q kc kt n L cd tm) (hn : 0 < n) (ht : ∀ k, k < n → tm k < 2 ^ 31) (h : Q (.inl (some (.int (nI (cd (mst tm (n - 1))))))) S) : ∀ r m, m + 1 + r = n → Run ks (WG ks d) Q tb_X4_mostOften 4 [some (.ref q), some (.int (nI (mst tm m))), some (.int (nI (m + 1)))] [] S := by
  obtain ⟨c6, t6, sq1, sq2, sq3, sq4, sq5, sq6, sq7, sq8, ⟨sc1, sc2, sc3, sc4⟩, ⟨st1, st2, st3, st4⟩⟩ := hR
  intro r
  induction r with
  | zero =>
    intro m hm
    rw [e_X4_mostOften_4]
    have e : m = n - 1 := by omega
    have hl := mst_le tm m
    simp only [e_X4_mostOften_0, e_X4_mostOften_1, e_X4_mostOften_2, e_X4_mostOften_3, e_X4_mostOften_5, e_X4_mostOften_6, e_X4_mostOften_9, e_X4_mostOften_12, e_X4_mostOften_13, e_X4_mostOften_16, e_X4_mostOften_17, e_X4_mostOften_18, e_X4_mostOften_19, e_X4_mostOften_22, e_X4_mostOften_23, e_X4_mostOften_24, e_X4_mostOften_27, e_X4_mostOften_28, e_X4_mostOften_31, e_X4_mostOften_32, e_X4_mostOften_33, e_X4_mostOften_36, e_X4_mostOften_39, e_X4_mostOften_40, e_X4_mostOften_43, e_X4_mostOften_44, e_X4_mostOften_45, o_const, o_iload, o_aload, o_fload, o_dload, o_istore, o_astore, o_fstore, o_dstore, o_iinc, o_bin, o_div, o_un, o_i2l, o_i2f, o_i2d, o_f2d, o_fdiv, o_ddiv, o_lcmp, o_fcmp, o_dcmp, o_if, o_if2, o_goto, o_dup, o_dupx1, o_dup2, o_pop, o_getI, o_getR, o_putI, o_putR, o_iald, o_iast, o_bald, o_bast, o_zald, o_zast, o_aald, o_aast, o_jald, o_jast, o_dald, o_dast, o_alen, o_castA, o_new, o_newa, o_callv, o_callvN, o_calli, o_calls, o_objinit, o_iret, o_zret, o_fret, o_dret, o_aret, o_vret, o_throw, o_acopy, o_bcopy, o_clone, o_tsw, o_ldcS, o_kval, o_kcoder, o_klen, o_kald, o_tald, o_getSq, o_callk, o_callvH, gl, stl, stl2, pre2, va_rf, Value.category, catS, List.length_cons, List.length_nil, List.map_cons, List.map_nil, List.sum_cons, List.sum_nil, List.take_succ_cons, List.take_zero, List.drop_succ_cons, List.drop_zero, List.reverse_cons, List.reverse_nil, List.nil_append, List.cons_append, true_and, and_true, Nat.reduceAdd, Nat.reduceLT, Nat.reduceLeDiff, sq1, sq2, sq3, sq7, sq8, sc1, sc2, sc3, st1, st2, st3, nI_leI (show n < 2 ^ 31 by omega) (show m + 1 < 2 ^ 31 by omega), nI_clamp (show mst tm m < 2 ^ 31 by omega), sc4 (mst tm m) (by omega)]
    rw [← e] at h
    exact ⟨fun _ => ⟨sq6.1, vp_in_nI (by omega) (by omega), h⟩, fun c => (c (by omega)).elim⟩
  | succ r ih =>
    intro m hm
    rw [e_X4_mostOften_4]
    have hih := ih (m + 1) (by omega)
    have hl := mst_le tm m
    simp only [mst] at hih
    simp only [e_X4_mostOften_0, e_X4_mostOften_1, e_X4_mostOften_2, e_X4_mostOften_3, e_X4_mostOften_5, e_X4_mostOften_6, e_X4_mostOften_9, e_X4_mostOften_12, e_X4_mostOften_13, e_X4_mostOften_16, e_X4_mostOften_17, e_X4_mostOften_18, e_X4_mostOften_19, e_X4_mostOften_22, e_X4_mostOften_23, e_X4_mostOften_24, e_X4_mostOften_27, e_X4_mostOften_28, e_X4_mostOften_31, e_X4_mostOften_32, e_X4_mostOften_33, e_X4_mostOften_36, e_X4_mostOften_39, e_X4_mostOften_40, e_X4_mostOften_43, e_X4_mostOften_44, e_X4_mostOften_45, o_const, o_iload, o_aload, o_fload, o_dload, o_istore, o_astore, o_fstore, o_dstore, o_iinc, o_bin, o_div, o_un, o_i2l, o_i2f, o_i2d, o_f2d, o_fdiv, o_ddiv, o_lcmp, o_fcmp, o_dcmp, o_if, o_if2, o_goto, o_dup, o_dupx1, o_dup2, o_pop, o_getI, o_getR, o_putI, o_putR, o_iald, o_iast, o_bald, o_bast, o_zald, o_zast, o_aald, o_aast, o_jald, o_jast, o_dald, o_dast, o_alen, o_castA, o_new, o_newa, o_callv, o_callvN, o_calli, o_calls, o_objinit, o_iret, o_zret, o_fret, o_dret, o_aret, o_vret, o_throw, o_acopy, o_bcopy, o_clone, o_tsw, o_ldcS, o_kval, o_kcoder, o_klen, o_kald, o_tald, o_getSq, o_callk, o_callvH, gl, stl, stl2, pre2, va_rf, Value.category, catS, List.length_cons, List.length_nil, List.map_cons, List.map_nil, List.sum_cons, List.sum_nil, List.take_succ_cons, List.take_zero, List.drop_succ_cons, List.drop_zero, List.reverse_cons, List.reverse_nil, List.nil_append, List.cons_append, true_and, and_true, Nat.reduceAdd, Nat.reduceLT, Nat.reduceLeDiff, sq1, sq2, sq3, sq7, sq8, sc1, sc2, sc3, st1, st2, st3, nI_leI (show n < 2 ^ 31 by omega) (show m + 1 < 2 ^ 31 by omega), nI_clamp (show m + 1 < 2 ^ 31 by omega), nI_clamp (show mst tm m < 2 ^ 31 by omega), st4 (m + 1) (by omega), st4 (mst tm m) (by omega), nI_1, nI_leI (ht (m + 1) (by omega)) (ht (mst tm m) (by omega))]
    refine ⟨fun c => absurd c (by omega), fun _ => ⟨sq6.2.1, vp_in_nI (by omega) (by omega), sq6.2.1, vp_in_nI (by omega) (by omega), fun c9 => ?_, fun c9 => ?_⟩⟩
    · rw [if_pos c9] at hih; exact hih
    · rw [if_neg c9] at hih; exact hih
theorem sp_mostOften (hR : SeenR S q kc kt n L cd tm) (hn : 0 < n) (ht : ∀ k, k < n → tm k < 2 ^ 31) (h : Q (.inl (some (.int (nI (cd (mst tm (n - 1))))))) S) : WG ks (d + 1) n_X4_mostOften [.ref q] S Q := by
  refine ⟨by simp [cat1, Value.category], by show (1 : Nat) ≤ 3; decide, ?_⟩
  show Run ks (WG ks d) Q tb_X4_mostOften 0 [some (.ref q), none, none] [] S
  simp only [e_X4_mostOften_0, e_X4_mostOften_1, e_X4_mostOften_2, e_X4_mostOften_3, e_X4_mostOften_5, e_X4_mostOften_6, e_X4_mostOften_9, e_X4_mostOften_12, e_X4_mostOften_13, e_X4_mostOften_16, e_X4_mostOften_17, e_X4_mostOften_18, e_X4_mostOften_19, e_X4_mostOften_22, e_X4_mostOften_23, e_X4_mostOften_24, e_X4_mostOften_27, e_X4_mostOften_28, e_X4_mostOften_31, e_X4_mostOften_32, e_X4_mostOften_33, e_X4_mostOften_36, e_X4_mostOften_39, e_X4_mostOften_40, e_X4_mostOften_43, e_X4_mostOften_44, e_X4_mostOften_45, o_const, o_iload, o_aload, o_fload, o_dload, o_istore, o_astore, o_fstore, o_dstore, o_iinc, o_bin, o_div, o_un, o_i2l, o_i2f, o_i2d, o_f2d, o_fdiv, o_ddiv, o_lcmp, o_fcmp, o_dcmp, o_if, o_if2, o_goto, o_dup, o_dupx1, o_dup2, o_pop, o_getI, o_getR, o_putI, o_putR, o_iald, o_iast, o_bald, o_bast, o_zald, o_zast, o_aald, o_aast, o_jald, o_jast, o_dald, o_dast, o_alen, o_castA, o_new, o_newa, o_callv, o_callvN, o_calli, o_calls, o_objinit, o_iret, o_zret, o_fret, o_dret, o_aret, o_vret, o_throw, o_acopy, o_bcopy, o_clone, o_tsw, o_ldcS, o_kval, o_kcoder, o_klen, o_kald, o_tald, o_getSq, o_callk, o_callvH, gl, stl, stl2, pre2, va_rf, Value.category, catS, List.length_cons, List.length_nil, List.map_cons, List.map_nil, List.sum_cons, List.sum_nil, List.take_succ_cons, List.take_zero, List.drop_succ_cons, List.drop_zero, List.reverse_cons, List.reverse_nil, List.nil_append, List.cons_append, true_and, and_true, Nat.reduceAdd, Nat.reduceLT, Nat.reduceLeDiff]
  exact sp_mostOften_lp hR hn ht h (n - 1) 0 (by omega)
/-- how often a code was seen -/
def tmI (tm : Nat → Nat) : Option Nat → Int32
  | none => 0
  | some k => nI (tm k)
theorem sp_timesOf (hR : SeenR S q kc kt n L cd tm) {c : Int32} (h : Q (.inl (some (.int (tmI tm (plc cd c 0 n))))) S) : WG ks (d + 2) n_X4_timesOf [.ref q, .int c] S Q := by
  refine ⟨by simp [cat1, Value.category], by show (2 : Nat) ≤ 3; decide, ?_⟩
  show Run ks (WG ks (d + 1)) Q tb_X4_timesOf 0 [some (.ref q), some (.int c), none] [] S
  have hR0 := hR
  obtain ⟨c6, t6, sq1, sq2, sq3, sq4, sq5, sq6, sq7, sq8, ⟨sc1, sc2, sc3, sc4⟩, ⟨st1, st2, st3, st4⟩⟩ := hR0
  simp only [e_X4_timesOf_0, e_X4_timesOf_1, e_X4_timesOf_2, e_X4_timesOf_5, e_X4_timesOf_6, e_X4_timesOf_7, e_X4_timesOf_10, e_X4_timesOf_11, e_X4_timesOf_14, e_X4_timesOf_15, e_X4_timesOf_16, e_X4_timesOf_19, e_X4_timesOf_20, o_const, o_iload, o_aload, o_fload, o_dload, o_istore, o_astore, o_fstore, o_dstore, o_iinc, o_bin, o_div, o_un, o_i2l, o_i2f, o_i2d, o_f2d, o_fdiv, o_ddiv, o_lcmp, o_fcmp, o_dcmp, o_if, o_if2, o_goto, o_dup, o_dupx1, o_dup2, o_pop, o_getI, o_getR, o_putI, o_putR, o_iald, o_iast, o_bald, o_bast, o_zald, o_zast, o_aald, o_aast, o_jald, o_jast, o_dald, o_dast, o_alen, o_castA, o_new, o_newa, o_callv, o_callvN, o_calli, o_calls, o_objinit, o_iret, o_zret, o_fret, o_dret, o_aret, o_vret, o_throw, o_acopy, o_bcopy, o_clone, o_tsw, o_ldcS, o_kval, o_kcoder, o_klen, o_kald, o_tald, o_getSq, o_callk, o_callvH, gl, stl, stl2, pre2, va_rf, Value.category, catS, List.length_cons, List.length_nil, List.map_cons, List.map_nil, List.sum_cons, List.sum_nil, List.take_succ_cons, List.take_zero, List.drop_succ_cons, List.drop_zero, List.reverse_cons, List.reverse_nil, List.nil_append, List.cons_append, true_and, and_true, Nat.reduceAdd, Nat.reduceLT, Nat.reduceLeDiff, sq1, sq2, sq3, sq7, sq8, sc1, sc2, sc3, st1, st2, st3]
  refine ⟨⟨q, [.int c], rfl, rfl, sq1, sq2⟩, sp_placeOf hR ?_⟩
  simp only [behind, e_X4_timesOf_0, e_X4_timesOf_1, e_X4_timesOf_2, e_X4_timesOf_5, e_X4_timesOf_6, e_X4_timesOf_7, e_X4_timesOf_10, e_X4_timesOf_11, e_X4_timesOf_14, e_X4_timesOf_15, e_X4_timesOf_16, e_X4_timesOf_19, e_X4_timesOf_20, o_const, o_iload, o_aload, o_fload, o_dload, o_istore, o_astore, o_fstore, o_dstore, o_iinc, o_bin, o_div, o_un, o_i2l, o_i2f, o_i2d, o_f2d, o_fdiv, o_ddiv, o_lcmp, o_fcmp, o_dcmp, o_if, o_if2, o_goto, o_dup, o_dupx1, o_dup2, o_pop, o_getI, o_getR, o_putI, o_putR, o_iald, o_iast, o_bald, o_bast, o_zald, o_zast, o_aald, o_aast, o_jald, o_jast, o_dald, o_dast, o_alen, o_castA, o_new, o_newa, o_callv, o_callvN, o_calli, o_calls, o_objinit, o_iret, o_zret, o_fret, o_dret, o_aret, o_vret, o_throw, o_acopy, o_bcopy, o_clone, o_tsw, o_ldcS, o_kval, o_kcoder, o_klen, o_kald, o_tald, o_getSq, o_callk, o_callvH, gl, stl, stl2, pre2, va_rf, Value.category, catS, List.length_cons, List.length_nil, List.map_cons, List.map_nil, List.sum_cons, List.sum_nil, List.take_succ_cons, List.take_zero, List.drop_succ_cons, List.drop_zero, List.reverse_cons, List.reverse_nil, List.nil_append, List.cons_append, true_and, and_true, Nat.reduceAdd, Nat.reduceLT, Nat.reduceLeDiff, sq1, sq2, sq3, sq7, sq8, sc1, sc2, sc3, st1, st2, st3]
  cases e : plc cd c 0 n with
  | none =>
    rw [e] at h
    exact ⟨fun _ => h, fun c => absurd (show (-1 : Int32) < 0 by decide) c⟩
  | some k =>
    rw [e] at h
    have hk := plc_lt _ _ _ e
    simp only [plI, nI_clamp (show k < 2 ^ 31 by omega), st4 k (by omega)]
    exact ⟨fun c => absurd c (nI_pos (by omega)), fun _ => ⟨sq6.2.1, vp_in_nI (by omega) (by omega), h⟩⟩
end SPS
