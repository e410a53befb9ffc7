/-! A SETUP GROWS -/
def aAddC (A : ASet) (of : Int32) (am : Nat) : ASet := (aCm A + 1, fun k => if k = aCm A then of else aOf A k, fun k => if k = aCm A then am else aAm A k, aWm A, aTo A, aAc A, aUs A, aSd A)
def aAddW (A : ASet) (to ac us : Nat) : ASet := (aCm A, aOf A, aAm A, aWm A + 1, fun k => if k = aWm A then to else aTo A k, fun k => if k = aWm A then ac else aAc A k, fun k => if k = aWm A then us else aUs A k, aSd A)
section SPS
variable {ks : Nat → Nat} {d : Nat} {Q : QP} {S : M9} {p : Nat} {A : ASet}
theorem sp_addComparator (hR : SetR S p A) (hA : aCm A < 3) {of : Int32} {am : Nat} (h : ∀ S', SetR S' p (aAddC A of am) → Fr S S' (SetA S p) 0 0 → gR S' 7 p = gR S 7 p → Q (.inl none) S') : WG ks (d + 1) n_X5_addComparator [.ref p, .int of, .int (nI am)] S Q := by
  refine ⟨by simp [cat1, Value.category], by show (3 : Nat) ≤ 3; decide, ?_⟩
  show Run ks (WG ks d) Q tb_X5_addComparator 0 [some (.ref p), some (.int of), some (.int (nI am))] [] S
  obtain ⟨o5, a5, t5, c5, u5, hp, hpk, f0, f3, f7, r1, r2, r4, r5, r6, ⟨zo1, zo2, zo3, zo4⟩, ⟨za1, za2, za3, za4⟩, ⟨zt1, zt2, zt3, zt4⟩, ⟨zc1, zc2, zc3, zc4⟩, ⟨zu1, zu2, zu3, zu4⟩⟩ := hR
  simp only [e_X5_addComparator_0, e_X5_addComparator_1, e_X5_addComparator_4, e_X5_addComparator_5, e_X5_addComparator_8, e_X5_addComparator_9, e_X5_addComparator_12, e_X5_addComparator_13, e_X5_addComparator_16, e_X5_addComparator_17, e_X5_addComparator_18, e_X5_addComparator_19, e_X5_addComparator_22, e_X5_addComparator_23, e_X5_addComparator_26, e_X5_addComparator_27, e_X5_addComparator_28, e_X5_addComparator_29, e_X5_addComparator_30, e_X5_addComparator_33, e_X5_addComparator_34, e_X5_addComparator_35, e_X5_addComparator_38, o_const, o_iload, o_aload, o_fload, o_dload, o_istore, o_astore, o_fstore, o_dstore, o_iinc, o_bin, o_div, o_un, o_i2l, o_i2f, o_i2d, o_f2d, o_fdiv, o_ddiv, o_lcmp, o_fcmp, o_dcmp, o_if, o_if2, o_goto, o_dup, o_dupx1, o_dup2, o_pop, o_getI, o_getR, o_putI, o_putR, o_iald, o_iast, o_bald, o_bast, o_zald, o_zast, o_aald, o_aast, o_jald, o_jast, o_dald, o_dast, o_alen, o_castA, o_new, o_newa, o_callv, o_callvN, o_calli, o_calls, o_objinit, o_iret, o_zret, o_fret, o_dret, o_aret, o_vret, o_throw, o_acopy, o_bcopy, o_clone, o_tsw, o_ldcS, o_kval, o_kcoder, o_klen, o_kald, o_tald, o_getSq, o_callk, o_callvH, gl, stl, stl2, pre2, va_rf, Value.category, catS, List.length_cons, List.length_nil, List.map_cons, List.map_nil, List.sum_cons, List.sum_nil, List.take_succ_cons, List.take_zero, List.drop_succ_cons, List.drop_zero, List.reverse_cons, List.reverse_nil, List.nil_append, List.cons_append, true_and, and_true, Nat.reduceAdd, Nat.reduceLT, Nat.reduceLeDiff, hp, hpk, f0, f3, f7, r1, r2, r4, r5, r6, zo1, zo2, zo3, za1, za2, za3, zt1, zt2, zt3, zc1, zc2, zc3, zu1, zu2, zu3, gL_sW, gL_sI, gL_sR, gL_sC, gL_nW, gK_sW, gK_sI, gK_sR, gK_sC, gK_nW, gN_sW, gN_sI, gN_sR, gN_sC, gN_nW, gC_sW, gC_sI, gC_sR, gC_sC, gC_nW, gZ_sW, gZ_sI, gZ_sR, gZ_sC, gZ_nW, gI_sW, gI_sI, gI_sR, gI_sC, gI_nW, gR_sW, gR_sI, gR_sR, gR_sC, gR_nW, Nat.reduceEqDiff, false_and, and_false, if_false, true_and, narI, and_self]
  refine ⟨fun c => absurd ((nI_leI (by decide) (by omega)).mp (show nI 3 ≤ nI (aCm A) from c)) (by omega), fun _ => ?_⟩
  have hcl : (nI (aCm A)).toNatClampNeg = aCm A := nI_clamp (by omega)
  refine ⟨vp_in_nI (by omega) (by decide), vp_in_nI (by omega) (by decide), h _ ⟨o5, a5, t5, c5, u5, ?_⟩ ?_ ?_⟩
  · refine ⟨hp, hpk, ?_, ?_, ?_, r1, r2, r4, r5, r6, ⟨zo1, zo2, zo3, fun k hk => ?_⟩, ⟨za1, za2, za3, fun k hk => ?_⟩, ⟨zt1, zt2, zt3, fun k hk => ?_⟩, ⟨zc1, zc2, zc3, fun k hk => ?_⟩, ⟨zu1, zu2, zu3, fun k hk => ?_⟩⟩
    · simp [gI_sW, gI_sI, gI_sR, gI_sC, gI_nW, gR_sW, gR_sI, gR_sR, gR_sC, gR_nW, Nat.reduceEqDiff, false_and, and_false, if_false, true_and, narI, and_self, upd, nI_1, aCm, aAddC]
    · simp [gI_sW, gI_sI, gI_sR, gI_sC, gI_nW, gR_sW, gR_sI, gR_sR, gR_sC, gR_nW, Nat.reduceEqDiff, false_and, and_false, if_false, true_and, narI, and_self, upd, f3, aWm, aAddC]
    · simp [gI_sW, gI_sI, gI_sR, gI_sC, gI_nW, gR_sW, gR_sI, gR_sR, gR_sC, gR_nW, Nat.reduceEqDiff, false_and, and_false, if_false, true_and, narI, and_self, upd, f7, aSd, aAddC]
    · simp only [gI_sW, gI_sI, gI_sR, gI_sC, gI_nW, gR_sW, gR_sI, gR_sR, gR_sC, gR_nW, Nat.reduceEqDiff, false_and, and_false, if_false, true_and, narI, and_self, hcl]
      by_cases e : k = aCm A
      · simp [upd, aOf, aAddC, e]
      · simp [upd, aOf, aAddC, e, zo4 k hk]
    · simp only [gI_sW, gI_sI, gI_sR, gI_sC, gI_nW, gR_sW, gR_sI, gR_sR, gR_sC, gR_nW, Nat.reduceEqDiff, false_and, and_false, if_false, true_and, narI, and_self, hcl]
      by_cases e : k = aCm A
      · simp [upd, aAm, aAddC, e]
      · simp [upd, aAm, aAddC, e, za4 k hk]
    · simp only [gI_sW, gI_sI, gI_sR, gI_sC, gI_nW, gR_sW, gR_sI, gR_sR, gR_sC, gR_nW, Nat.reduceEqDiff, false_and, and_false, if_false, true_and, narI, and_self]
      exact zt4 k hk
    · simp only [gI_sW, gI_sI, gI_sR, gI_sC, gI_nW, gR_sW, gR_sI, gR_sR, gR_sC, gR_nW, Nat.reduceEqDiff, false_and, and_false, if_false, true_and, narI, and_self]
      exact zc4 k hk
    · simp only [gI_sW, gI_sI, gI_sR, gI_sC, gI_nW, gR_sW, gR_sI, gR_sR, gR_sC, gR_nW, Nat.reduceEqDiff, false_and, and_false, if_false, true_and, narI, and_self]
      exact zu4 k hk
  · exact ((Fr.sI S 25 o5 _ of).trans ((Fr.sI _ 26 a5 _ (nI am)).trans (Fr.sI _ 7 p 0 _))).mono (fun t' a' _ q => by
      rcases q with q | q | q
      · exact Or.inr (Or.inl ⟨q.1, by rw [q.2]; exact r1⟩)
      · exact Or.inr (Or.inr (Or.inl ⟨q.1, by rw [q.2]; exact r2⟩))
      · exact Or.inl q) (by decide) (by decide)
  · rfl
theorem sp_addWeight (hR : SetR S p A) (hA : aWm A < 10) {to ac us : Nat} (h : ∀ S', SetR S' p (aAddW A to ac us) → Fr S S' (SetA S p) 0 0 → gR S' 7 p = gR S 7 p → Q (.inl none) S') : WG ks (d + 1) n_X5_addWeight [.ref p, .int (nI to), .int (nI ac), .int (nI us)] S Q := by
  refine ⟨by simp [cat1, Value.category], by show (4 : Nat) ≤ 4; decide, ?_⟩
  show Run ks (WG ks d) Q tb_X5_addWeight 0 [some (.ref p), some (.int (nI to)), some (.int (nI ac)), some (.int (nI us))] [] S
  obtain ⟨o5, a5, t5, c5, u5, hp, hpk, f0, f3, f7, r1, r2, r4, r5, r6, ⟨zo1, zo2, zo3, zo4⟩, ⟨za1, za2, za3, za4⟩, ⟨zt1, zt2, zt3, zt4⟩, ⟨zc1, zc2, zc3, zc4⟩, ⟨zu1, zu2, zu3, zu4⟩⟩ := hR
  simp only [e_X5_addWeight_0, e_X5_addWeight_1, e_X5_addWeight_4, e_X5_addWeight_6, e_X5_addWeight_9, e_X5_addWeight_10, e_X5_addWeight_13, e_X5_addWeight_14, e_X5_addWeight_17, e_X5_addWeight_18, e_X5_addWeight_19, e_X5_addWeight_20, e_X5_addWeight_23, e_X5_addWeight_24, e_X5_addWeight_27, e_X5_addWeight_28, e_X5_addWeight_29, e_X5_addWeight_30, e_X5_addWeight_33, e_X5_addWeight_34, e_X5_addWeight_37, e_X5_addWeight_38, e_X5_addWeight_39, e_X5_addWeight_40, e_X5_addWeight_41, e_X5_addWeight_44, e_X5_addWeight_45, e_X5_addWeight_46, e_X5_addWeight_49, o_const, o_iload, o_aload, o_fload, o_dload, o_istore, o_astore, o_fstore, o_dstore, o_iinc, o_bin, o_div, o_un, o_i2l, o_i2f, o_i2d, o_f2d, o_fdiv, o_ddiv, o_lcmp, o_fcmp, o_dcmp, o_if, o_if2, o_goto, o_dup, o_dupx1, o_dup2, o_pop, o_getI, o_getR, o_putI, o_putR, o_iald, o_iast, o_bald, o_bast, o_zald, o_zast, o_aald, o_aast, o_jald, o_jast, o_dald, o_dast, o_alen, o_castA, o_new, o_newa, o_callv, o_callvN, o_calli, o_calls, o_objinit, o_iret, o_zret, o_fret, o_dret, o_aret, o_vret, o_throw, o_acopy, o_bcopy, o_clone, o_tsw, o_ldcS, o_kval, o_kcoder, o_klen, o_kald, o_tald, o_getSq, o_callk, o_callvH, gl, stl, stl2, pre2, va_rf, Value.category, catS, List.length_cons, List.length_nil, List.map_cons, List.map_nil, List.sum_cons, List.sum_nil, List.take_succ_cons, List.take_zero, List.drop_succ_cons, List.drop_zero, List.reverse_cons, List.reverse_nil, List.nil_append, List.cons_append, true_and, and_true, Nat.reduceAdd, Nat.reduceLT, Nat.reduceLeDiff, hp, hpk, f0, f3, f7, r1, r2, r4, r5, r6, zo1, zo2, zo3, za1, za2, za3, zt1, zt2, zt3, zc1, zc2, zc3, zu1, zu2, zu3, gL_sW, gL_sI, gL_sR, gL_sC, gL_nW, gK_sW, gK_sI, gK_sR, gK_sC, gK_nW, gN_sW, gN_sI, gN_sR, gN_sC, gN_nW, gC_sW, gC_sI, gC_sR, gC_sC, gC_nW, gZ_sW, gZ_sI, gZ_sR, gZ_sC, gZ_nW, gI_sW, gI_sI, gI_sR, gI_sC, gI_nW, gR_sW, gR_sI, gR_sR, gR_sC, gR_nW, Nat.reduceEqDiff, false_and, and_false, if_false, true_and, narI, and_self]
  refine ⟨fun c => absurd ((nI_leI (by decide) (by omega)).mp (show nI 10 ≤ nI (aWm A) from c)) (by omega), fun _ => ?_⟩
  have hcl : (nI (aWm A)).toNatClampNeg = aWm A := nI_clamp (by omega)
  refine ⟨vp_in_nI (by omega) (by decide), vp_in_nI (by omega) (by decide), vp_in_nI (by omega) (by decide), h _ ⟨o5, a5, t5, c5, u5, ?_⟩ ?_ ?_⟩
  · refine ⟨hp, hpk, ?_, ?_, ?_, r1, r2, r4, r5, r6, ⟨zo1, zo2, zo3, fun k hk => ?_⟩, ⟨za1, za2, za3, fun k hk => ?_⟩, ⟨zt1, zt2, zt3, fun k hk => ?_⟩, ⟨zc1, zc2, zc3, fun k hk => ?_⟩, ⟨zu1, zu2, zu3, fun k hk => ?_⟩⟩
    · simp [gI_sW, gI_sI, gI_sR, gI_sC, gI_nW, gR_sW, gR_sI, gR_sR, gR_sC, gR_nW, Nat.reduceEqDiff, false_and, and_false, if_false, true_and, narI, and_self, upd, f0, aCm, aAddW]
    · simp [gI_sW, gI_sI, gI_sR, gI_sC, gI_nW, gR_sW, gR_sI, gR_sR, gR_sC, gR_nW, Nat.reduceEqDiff, false_and, and_false, if_false, true_and, narI, and_self, upd, nI_1, aWm, aAddW]
    · simp [gI_sW, gI_sI, gI_sR, gI_sC, gI_nW, gR_sW, gR_sI, gR_sR, gR_sC, gR_nW, Nat.reduceEqDiff, false_and, and_false, if_false, true_and, narI, and_self, upd, f7, aSd, aAddW]
    · simp only [gI_sW, gI_sI, gI_sR, gI_sC, gI_nW, gR_sW, gR_sI, gR_sR, gR_sC, gR_nW, Nat.reduceEqDiff, false_and, and_false, if_false, true_and, narI, and_self]
      exact zo4 k hk
    · simp only [gI_sW, gI_sI, gI_sR, gI_sC, gI_nW, gR_sW, gR_sI, gR_sR, gR_sC, gR_nW, Nat.reduceEqDiff, false_and, and_false, if_false, true_and, narI, and_self]
      exact za4 k hk
    · simp only [gI_sW, gI_sI, gI_sR, gI_sC, gI_nW, gR_sW, gR_sI, gR_sR, gR_sC, gR_nW, Nat.reduceEqDiff, false_and, and_false, if_false, true_and, narI, and_self, hcl]
      by_cases e : k = aWm A
      · simp [upd, aTo, aAddW, e]
      · simp [upd, aTo, aAddW, e, zt4 k hk]
    · simp only [gI_sW, gI_sI, gI_sR, gI_sC, gI_nW, gR_sW, gR_sI, gR_sR, gR_sC, gR_nW, Nat.reduceEqDiff, false_and, and_false, if_false, true_and, narI, and_self, hcl]
      by_cases e : k = aWm A
      · simp [upd, aAc, aAddW, e]
      · simp [upd, aAc, aAddW, e, zc4 k hk]
    · simp only [gI_sW, gI_sI, gI_sR, gI_sC, gI_nW, gR_sW, gR_sI, gR_sR, gR_sC, gR_nW, Nat.reduceEqDiff, false_and, and_false, if_false, true_and, narI, and_self, hcl]
      by_cases e : k = aWm A
      · simp [upd, aUs, aAddW, e]
      · simp [upd, aUs, aAddW, e, zu4 k hk]
  · exact ((Fr.sI S 27 t5 _ (nI to)).trans ((Fr.sI _ 28 c5 _ (nI ac)).trans ((Fr.sI _ 29 u5 _ (nI us)).trans (Fr.sI _ 7 p 3 _)))).mono (fun t' a' _ q => by
      rcases q with q | q | q | q
      · exact Or.inr (Or.inr (Or.inr (Or.inl ⟨q.1, by rw [q.2]; exact r4⟩)))
      · exact Or.inr (Or.inr (Or.inr (Or.inr (Or.inl ⟨q.1, by rw [q.2]; exact r5⟩))))
      · exact Or.inr (Or.inr (Or.inr (Or.inr (Or.inr ⟨q.1, by rw [q.2]; exact r6⟩))))
      · exact Or.inl q) (by decide) (by decide)
  · rfl
end SPS
