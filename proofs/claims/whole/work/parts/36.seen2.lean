/-! THE CODES SEEN, changed -/
theorem cl_2mul (L : Nat) : (2 : Int32) * nI L = nI (2 * L) := pk_mul 2 L
theorem gR_sRk (S : M9) (t a k t' a' j : Nat) (v : Option Nat) : gR (sR S t a k v) t' a' j = if t' = t ∧ a' = a ∧ j = k then v else gR S t' a' j := by
  rw [gR_sR]
  by_cases h : t' = t ∧ a' = a
  · rw [if_pos h, h.1, h.2]
    by_cases e : j = k
    · rw [if_pos ⟨rfl, rfl, e⟩]; simp [va_up, e]
    · rw [if_neg (fun q => e q.2.2)]; simp [va_up, e]
  · rw [if_neg h, if_neg (fun q => h ⟨q.1, q.2.1⟩)]
theorem gI_sIk (S : M9) (t a k t' a' j : Nat) (v : Int32) : gI (sI S t a k v) t' a' j = if t' = t ∧ a' = a ∧ j = k then v else gI S t' a' j := by
  rw [gI_sI]
  by_cases h : t' = t ∧ a' = a
  · rw [if_pos h, h.1, h.2]
    by_cases e : j = k
    · rw [if_pos ⟨rfl, rfl, e⟩]; simp [upd, e]
    · rw [if_neg (fun q => e q.2.2)]; simp [upd, e]
  · rw [if_neg h, if_neg (fun q => h ⟨q.1, q.2.1⟩)]
theorem gR_nWk (S : M9) (t a n z t' a' j : Nat) : gR (nW S t a n z) t' a' j = if t' = t ∧ a' = a then none else gR S t' a' j := by
  rw [gR_nW]
  by_cases h : t' = t ∧ a' = a
  · rw [if_pos h, if_pos h]
  · rw [if_neg h, if_neg h]
theorem gI_nWk (S : M9) (t a n z t' a' j : Nat) : gI (nW S t a n z) t' a' j = if t' = t ∧ a' = a then 0 else gI S t' a' j := by
  rw [gI_nW]
  by_cases h : t' = t ∧ a' = a
  · rw [if_pos h, if_pos h]
  · rw [if_neg h, if_neg h]
section SPS
variable {ks : Nat → Nat} {d : Nat} {Q : QP} {S : M9} {q kc kt n L : Nat} {cd tm : Nat → Nat}
/-- the cells of the codes seen -/
def SeenA (S : M9) (q kc kt : Nat) (t a : Nat) : Prop := (t = 6 ∧ a = q) ∨ (t = kc ∧ gR S 6 q 0 = some a) ∨ (t = kt ∧ gR S 6 q 1 = some a)
theorem sp_makeRoomFor (hR : SeenR S q kc kt n L cd tm) {pl : Nat} (hpl : pl ≤ 10000) (hc : gC S + 2 ≤ cCM) (hz : gZ S + 2 * max pl (2 * L) ≤ cSM)
    (h : ∀ S' L', SeenR S' q kc kt n L' cd tm → pl ≤ L' → L ≤ L' → L' ≤ 20000 → Fr S S' (fun t a => t = 6 ∧ a = q) 2 (4 * (L' - L)) → (∀ t a, SeenA S' q kc kt t a → a ∈ gL S → SeenA S q kc kt t a) → Q (.inl none) S') : WG ks (d + 3) n_X4_makeRoomFor [.ref q, .int (nI pl)] S Q := by
  refine ⟨by simp [cat1, Value.category], by show (2 : Nat) ≤ 3; decide, ?_⟩
  show Run ks (WG ks (d + 2)) Q tb_X4_makeRoomFor 0 [some (.ref q), some (.int (nI pl)), none] [] S
  have hR0 := hR
  obtain ⟨c6, t6, sq1, sq2, sq3, sq4, sq5, sq6, sq7, sq8, ⟨sc1, sc2, sc3, sc4⟩, ⟨st1, st2, st3, st4⟩⟩ := hR0
  simp only [e_X4_makeRoomFor_0, e_X4_makeRoomFor_1, e_X4_makeRoomFor_2, e_X4_makeRoomFor_5, e_X4_makeRoomFor_6, e_X4_makeRoomFor_9, e_X4_makeRoomFor_10, e_X4_makeRoomFor_11, e_X4_makeRoomFor_12, e_X4_makeRoomFor_15, e_X4_makeRoomFor_16, e_X4_makeRoomFor_17, e_X4_makeRoomFor_20, e_X4_makeRoomFor_21, e_X4_makeRoomFor_22, e_X4_makeRoomFor_23, e_X4_makeRoomFor_26, e_X4_makeRoomFor_27, e_X4_makeRoomFor_30, e_X4_makeRoomFor_33, e_X4_makeRoomFor_34, e_X4_makeRoomFor_35, e_X4_makeRoomFor_38, e_X4_makeRoomFor_39, e_X4_makeRoomFor_42, e_X4_makeRoomFor_45, o_const, o_iload, o_aload, o_fload, o_dload, o_istore, o_astore, o_fstore, o_dstore, o_iinc, o_bin, o_div, o_un, o_i2l, o_i2f, o_i2d, o_f2d, o_fdiv, o_ddiv, o_lcmp, o_fcmp, o_dcmp, o_if, o_if2, o_goto, o_dup, o_dupx1, o_dup2, o_pop, o_getI, o_getR, o_putI, o_putR, o_iald, o_iast, o_bald, o_bast, o_zald, o_zast, o_aald, o_aast, o_jald, o_jast, o_dald, o_dast, o_alen, o_castA, o_new, o_newa, o_callv, o_callvN, o_calli, o_calls, o_objinit, o_iret, o_zret, o_fret, o_dret, o_aret, o_vret, o_throw, o_acopy, o_bcopy, o_clone, o_tsw, o_ldcS, o_kval, o_kcoder, o_klen, o_kald, o_tald, o_getSq, o_callk, o_callvH, gl, stl, stl2, pre2, va_rf, Value.category, catS, List.length_cons, List.length_nil, List.map_cons, List.map_nil, List.sum_cons, List.sum_nil, List.take_succ_cons, List.take_zero, List.drop_succ_cons, List.drop_zero, List.reverse_cons, List.reverse_nil, List.nil_append, List.cons_append, true_and, and_true, Nat.reduceAdd, Nat.reduceLT, Nat.reduceLeDiff, sq1, sq2, sq3, sq7, sq8, sc1, sc2, sc3, st1, st2, st3, nI_leI (show pl < 2 ^ 31 by omega) (show L < 2 ^ 31 by omega), cl_2mul]
  refine ⟨by omega, fun c => ?_, fun c => ⟨by omega, sp_max ?_⟩⟩
  · exact h S L hR c (Nat.le_refl _) sq5.2 ((Fr.rf S).mono (fun _ _ _ q => q.elim) (by omega) (by omega)) (fun _ _ hA _ => hA)
  · have hmx : (if nI pl < nI (2 * L) then nI (2 * L) else nI pl) = nI (max pl (2 * L)) := by
      by_cases e : pl < 2 * L
      · rw [if_pos ((nI_ltI (by omega) (by omega)).mpr e), Nat.max_eq_right (by omega)]
      · rw [if_neg (fun z => e ((nI_ltI (by omega) (by omega)).mp z)), Nat.max_eq_left (by omega)]
    rw [hmx]
    simp only [behind, e_X4_makeRoomFor_0, e_X4_makeRoomFor_1, e_X4_makeRoomFor_2, e_X4_makeRoomFor_5, e_X4_makeRoomFor_6, e_X4_makeRoomFor_9, e_X4_makeRoomFor_10, e_X4_makeRoomFor_11, e_X4_makeRoomFor_12, e_X4_makeRoomFor_15, e_X4_makeRoomFor_16, e_X4_makeRoomFor_17, e_X4_makeRoomFor_20, e_X4_makeRoomFor_21, e_X4_makeRoomFor_22, e_X4_makeRoomFor_23, e_X4_makeRoomFor_26, e_X4_makeRoomFor_27, e_X4_makeRoomFor_30, e_X4_makeRoomFor_33, e_X4_makeRoomFor_34, e_X4_makeRoomFor_35, e_X4_makeRoomFor_38, e_X4_makeRoomFor_39, e_X4_makeRoomFor_42, e_X4_makeRoomFor_45, o_const, o_iload, o_aload, o_fload, o_dload, o_istore, o_astore, o_fstore, o_dstore, o_iinc, o_bin, o_div, o_un, o_i2l, o_i2f, o_i2d, o_f2d, o_fdiv, o_ddiv, o_lcmp, o_fcmp, o_dcmp, o_if, o_if2, o_goto, o_dup, o_dupx1, o_dup2, o_pop, o_getI, o_getR, o_putI, o_putR, o_iald, o_iast, o_bald, o_bast, o_zald, o_zast, o_aald, o_aast, o_jald, o_jast, o_dald, o_dast, o_alen, o_castA, o_new, o_newa, o_callv, o_callvN, o_calli, o_calls, o_objinit, o_iret, o_zret, o_fret, o_dret, o_aret, o_vret, o_throw, o_acopy, o_bcopy, o_clone, o_tsw, o_ldcS, o_kval, o_kcoder, o_klen, o_kald, o_tald, o_getSq, o_callk, o_callvH, gl, stl, stl2, pre2, va_rf, Value.category, catS, List.length_cons, List.length_nil, List.map_cons, List.map_nil, List.sum_cons, List.sum_nil, List.take_succ_cons, List.take_zero, List.drop_succ_cons, List.drop_zero, List.reverse_cons, List.reverse_nil, List.nil_append, List.cons_append, true_and, and_true, Nat.reduceAdd, Nat.reduceLT, Nat.reduceLeDiff, sq1, sq2, sq3, sq7, sq8, sc1, sc2, sc3, st1, st2, st3]
    refine sp_copyOf (t := kc) sc1 sc2 sq6.1 sq6.1 sc3 (by omega) (by omega) (by omega) (by omega) (fun c' hc' => ?_)
    have n1 : ¬ q = c' := fun e => hc' (e ▸ sq1)
    have n2 : ¬ t6 = c' := fun e => hc' (e ▸ st1)
    have k6 : ¬ 6 = kc := by omega
    simp only [behind, e_X4_makeRoomFor_0, e_X4_makeRoomFor_1, e_X4_makeRoomFor_2, e_X4_makeRoomFor_5, e_X4_makeRoomFor_6, e_X4_makeRoomFor_9, e_X4_makeRoomFor_10, e_X4_makeRoomFor_11, e_X4_makeRoomFor_12, e_X4_makeRoomFor_15, e_X4_makeRoomFor_16, e_X4_makeRoomFor_17, e_X4_makeRoomFor_20, e_X4_makeRoomFor_21, e_X4_makeRoomFor_22, e_X4_makeRoomFor_23, e_X4_makeRoomFor_26, e_X4_makeRoomFor_27, e_X4_makeRoomFor_30, e_X4_makeRoomFor_33, e_X4_makeRoomFor_34, e_X4_makeRoomFor_35, e_X4_makeRoomFor_38, e_X4_makeRoomFor_39, e_X4_makeRoomFor_42, e_X4_makeRoomFor_45, o_const, o_iload, o_aload, o_fload, o_dload, o_istore, o_astore, o_fstore, o_dstore, o_iinc, o_bin, o_div, o_un, o_i2l, o_i2f, o_i2d, o_f2d, o_fdiv, o_ddiv, o_lcmp, o_fcmp, o_dcmp, o_if, o_if2, o_goto, o_dup, o_dupx1, o_dup2, o_pop, o_getI, o_getR, o_putI, o_putR, o_iald, o_iast, o_bald, o_bast, o_zald, o_zast, o_aald, o_aast, o_jald, o_jast, o_dald, o_dast, o_alen, o_castA, o_new, o_newa, o_callv, o_callvN, o_calli, o_calls, o_objinit, o_iret, o_zret, o_fret, o_dret, o_aret, o_vret, o_throw, o_acopy, o_bcopy, o_clone, o_tsw, o_ldcS, o_kval, o_kcoder, o_klen, o_kald, o_tald, o_getSq, o_callk, o_callvH, gl, stl, stl2, pre2, va_rf, Value.category, catS, List.length_cons, List.length_nil, List.map_cons, List.map_nil, List.sum_cons, List.sum_nil, List.take_succ_cons, List.take_zero, List.drop_succ_cons, List.drop_zero, List.reverse_cons, List.reverse_nil, List.nil_append, List.cons_append, true_and, and_true, Nat.reduceAdd, Nat.reduceLT, Nat.reduceLeDiff, sq1, sq2, sq3, sq7, sq8, sc1, sc2, sc3, st1, st2, st3, gL_sW, gL_sI, gL_sR, gL_sC, gL_nW, gK_sW, gK_sI, gK_sR, gK_sC, gK_nW, gN_sW, gN_sI, gN_sR, gN_sC, gN_nW, gC_sW, gC_sI, gC_sR, gC_sC, gC_nW, gZ_sW, gZ_sI, gZ_sR, gZ_sC, gZ_nW, k6, n1, n2, false_and, if_neg n1, if_neg n2, List.mem_append, true_or, gR_sRk, gR_sW, gR_nWk, and_false, and_true, true_and, if_false, if_true, Nat.reduceEqDiff]
    refine sp_copyOf (t := kt) (List.mem_append_left _ st1) (by simp only [gL_sW, gL_sI, gL_sR, gL_sC, gL_nW, gK_sW, gK_sI, gK_sR, gK_sC, gK_nW, gN_sW, gN_sI, gN_sR, gN_sC, gN_nW, gC_sW, gC_sI, gC_sR, gC_sC, gC_nW, gZ_sW, gZ_sI, gZ_sR, gZ_sC, gZ_nW, if_neg n2]; exact st2) sq6.2.1 sq6.2.1 (by simp only [gL_sW, gL_sI, gL_sR, gL_sC, gL_nW, gK_sW, gK_sI, gK_sR, gK_sC, gK_nW, gN_sW, gN_sI, gN_sR, gN_sC, gN_nW, gC_sW, gC_sI, gC_sR, gC_sC, gC_nW, gZ_sW, gZ_sI, gZ_sR, gZ_sC, gZ_nW, if_neg n2]; exact st3) (show L < max pl (2 * L) by omega) (by omega) (by simp only [gL_sW, gL_sI, gL_sR, gL_sC, gL_nW, gK_sW, gK_sI, gK_sR, gK_sC, gK_nW, gN_sW, gN_sI, gN_sR, gN_sC, gN_nW, gC_sW, gC_sI, gC_sR, gC_sC, gC_nW, gZ_sW, gZ_sI, gZ_sR, gZ_sC, gZ_nW]; omega) (by simp only [gL_sW, gL_sI, gL_sR, gL_sC, gL_nW, gK_sW, gK_sI, gK_sR, gK_sC, gK_nW, gN_sW, gN_sI, gN_sR, gN_sC, gN_nW, gC_sW, gC_sI, gC_sR, gC_sC, gC_nW, gZ_sW, gZ_sI, gZ_sR, gZ_sC, gZ_nW]; omega) (fun t' ht' => ?_)
    simp only [gL_sW, gL_sI, gL_sR, gL_sC, gL_nW, gK_sW, gK_sI, gK_sR, gK_sC, gK_nW, gN_sW, gN_sI, gN_sR, gN_sC, gN_nW, gC_sW, gC_sI, gC_sR, gC_sC, gC_nW, gZ_sW, gZ_sI, gZ_sR, gZ_sC, gZ_nW, List.mem_append, List.mem_singleton, not_or] at ht'
    have n3 : ¬ q = t' := fun e => ht'.1 (e ▸ sq1)
    have n4 : ¬ c' = t' := fun e => ht'.2 e.symm
    have k7 : ¬ 6 = kt := by omega
    have k8 : ¬ kt = kc := fun e => sq6.2.2 e.symm
    simp only [behind, e_X4_makeRoomFor_0, e_X4_makeRoomFor_1, e_X4_makeRoomFor_2, e_X4_makeRoomFor_5, e_X4_makeRoomFor_6, e_X4_makeRoomFor_9, e_X4_makeRoomFor_10, e_X4_makeRoomFor_11, e_X4_makeRoomFor_12, e_X4_makeRoomFor_15, e_X4_makeRoomFor_16, e_X4_makeRoomFor_17, e_X4_makeRoomFor_20, e_X4_makeRoomFor_21, e_X4_makeRoomFor_22, e_X4_makeRoomFor_23, e_X4_makeRoomFor_26, e_X4_makeRoomFor_27, e_X4_makeRoomFor_30, e_X4_makeRoomFor_33, e_X4_makeRoomFor_34, e_X4_makeRoomFor_35, e_X4_makeRoomFor_38, e_X4_makeRoomFor_39, e_X4_makeRoomFor_42, e_X4_makeRoomFor_45, o_const, o_iload, o_aload, o_fload, o_dload, o_istore, o_astore, o_fstore, o_dstore, o_iinc, o_bin, o_div, o_un, o_i2l, o_i2f, o_i2d, o_f2d, o_fdiv, o_ddiv, o_lcmp, o_fcmp, o_dcmp, o_if, o_if2, o_goto, o_dup, o_dupx1, o_dup2, o_pop, o_getI, o_getR, o_putI, o_putR, o_iald, o_iast, o_bald, o_bast, o_zald, o_zast, o_aald, o_aast, o_jald, o_jast, o_dald, o_dast, o_alen, o_castA, o_new, o_newa, o_callv, o_callvN, o_calli, o_calls, o_objinit, o_iret, o_zret, o_fret, o_dret, o_aret, o_vret, o_throw, o_acopy, o_bcopy, o_clone, o_tsw, o_ldcS, o_kval, o_kcoder, o_klen, o_kald, o_tald, o_getSq, o_callk, o_callvH, gl, stl, stl2, pre2, va_rf, Value.category, catS, List.length_cons, List.length_nil, List.map_cons, List.map_nil, List.sum_cons, List.sum_nil, List.take_succ_cons, List.take_zero, List.drop_succ_cons, List.drop_zero, List.reverse_cons, List.reverse_nil, List.nil_append, List.cons_append, true_and, and_true, Nat.reduceAdd, Nat.reduceLT, Nat.reduceLeDiff, sq1, sq2, sq3, sq7, sq8, sc1, sc2, sc3, st1, st2, st3, gL_sW, gL_sI, gL_sR, gL_sC, gL_nW, gK_sW, gK_sI, gK_sR, gK_sC, gK_nW, gN_sW, gN_sI, gN_sR, gN_sC, gN_nW, gC_sW, gC_sI, gC_sR, gC_sC, gC_nW, gZ_sW, gZ_sI, gZ_sR, gZ_sC, gZ_nW, k6, k7, n1, n2, n3, false_and, List.mem_append, true_or, if_false]
    refine h _ (max pl (2 * L)) ⟨c', t', ?_⟩ (by omega) (by omega) (by omega) ?_ ?_
    · have hcp : ∀ (f : Nat → Int32) k, k < L → va_cpy f (fun _ => 0) 0 0 L k = f k := by
        intro f k hk
        simp [va_cpy, hk]
      have m1 : q ∈ (gL S ++ [c']) ++ [t'] := List.mem_append_left _ (List.mem_append_left _ sq1)
      have m2 : c' ∈ (gL S ++ [c']) ++ [t'] := List.mem_append_left _ (List.mem_append_right _ List.mem_cons_self)
      have m3 : t' ∈ (gL S ++ [c']) ++ [t'] := List.mem_append_right _ List.mem_cons_self
      refine ⟨m1, ?_, ?_, by omega, ⟨by omega, by omega⟩, sq6, ?_, ?_, ⟨m2, ?_, ?_, fun k hk => ?_⟩, ⟨m3, ?_, ?_, fun k hk => ?_⟩⟩
      · simp only [gL_sW, gL_sI, gL_sR, gL_sC, gL_nW, gK_sW, gK_sI, gK_sR, gK_sC, gK_nW, gN_sW, gN_sI, gN_sR, gN_sC, gN_nW, gC_sW, gC_sI, gC_sR, gC_sC, gC_nW, gZ_sW, gZ_sI, gZ_sR, gZ_sC, gZ_nW, if_neg n1, if_neg n3]; exact sq2
      · simp only [gI_sW, gI_sI, gI_sR, gI_sC, gI_nW, gR_sW, gR_sI, gR_sR, gR_sC, gR_nW, Nat.reduceEqDiff, false_and, and_false, if_false, true_and, narI, and_self, gI_nWk, k6, k7, false_and, if_false]; exact sq3
      · simp [gR_sRk, gR_sW, gR_nWk, k6, k7]
      · simp [gR_sRk, gR_sW, gR_nWk, k6, k7]
      · simp [gL_sW, gL_sI, gL_sR, gL_sC, gL_nW, gK_sW, gK_sI, gK_sR, gK_sC, gK_nW, gN_sW, gN_sI, gN_sR, gN_sC, gN_nW, gC_sW, gC_sI, gC_sR, gC_sC, gC_nW, gZ_sW, gZ_sI, gZ_sR, gZ_sC, gZ_nW, n4]
      · simp [gL_sW, gL_sI, gL_sR, gL_sC, gL_nW, gK_sW, gK_sI, gK_sR, gK_sC, gK_nW, gN_sW, gN_sI, gN_sR, gN_sC, gN_nW, gC_sW, gC_sI, gC_sR, gC_sC, gC_nW, gZ_sW, gZ_sI, gZ_sR, gZ_sC, gZ_nW, n4]
      · simp [gI_sR, gI_sW, gI_nW, sq6.2.2, hcp _ k (by omega : k < L)]; exact sc4 k hk
      · simp [gL_sW, gL_sI, gL_sR, gL_sC, gL_nW, gK_sW, gK_sI, gK_sR, gK_sC, gK_nW, gN_sW, gN_sI, gN_sR, gN_sC, gN_nW, gC_sW, gC_sI, gC_sR, gC_sC, gC_nW, gZ_sW, gZ_sI, gZ_sR, gZ_sC, gZ_nW]
      · simp [gL_sW, gL_sI, gL_sR, gL_sC, gL_nW, gK_sW, gK_sI, gK_sR, gK_sC, gK_nW, gN_sW, gN_sI, gN_sR, gN_sC, gN_nW, gC_sW, gC_sI, gC_sR, gC_sC, gC_nW, gZ_sW, gZ_sI, gZ_sR, gZ_sC, gZ_nW]
      · simp [gI_sR, gI_sW, gI_nW, k8, hcp _ k (by omega : k < L)]; exact st4 k hk
    · exact ((Fr.nW S kc c' _ _ hc').trans ((Fr.sW _ kc c' _).trans ((Fr.sR _ 6 q 0 (some c')).trans ((Fr.nW _ kt t' _ _ (by simp only [gL_sW, gL_sI, gL_sR, gL_sC, gL_nW, gK_sW, gK_sI, gK_sR, gK_sC, gK_nW, gN_sW, gN_sI, gN_sR, gN_sC, gN_nW, gC_sW, gC_sI, gC_sR, gC_sC, gC_nW, gZ_sW, gZ_sI, gZ_sR, gZ_sC, gZ_nW, List.mem_append, List.mem_singleton, not_or]; exact ht')).trans ((Fr.sW _ kt t' _).trans (Fr.sR _ 6 q 1 (some t'))))))).mono (fun t a ha w => by
        rcases w with w | w | w | w | w | w
        · exact w.elim
        · exact absurd (w.2 ▸ ha) hc'
        · exact w
        · exact w.elim
        · exact absurd (w.2 ▸ ha) ht'.1
        · exact w) (by omega) (by omega)
    · intro t a hA hin
      rcases hA with w | ⟨-, w⟩ | ⟨-, w⟩
      · exact Or.inl w
      · simp [gR_sRk, gR_sW, gR_nWk, k6, k7] at w
        exact absurd (w ▸ hin) hc'
      · simp [gR_sRk, gR_sW, gR_nWk, k6, k7] at w
        exact absurd (w ▸ hin) ht'.1
end SPS
