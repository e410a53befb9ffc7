/-! A SLOT -/
def SlotR (S : M9) (p tk w : Nat) (T : Nat → Nat) (z : Nat) : Prop := ∃ t : Nat, p ∈ gL S ∧ gK S p = 8 ∧ gI S 8 p 0 = nI w ∧ gI S 8 p 2 = nI z ∧ gR S 8 p 1 = some t ∧ ArrR S tk t 10 (fun k => nI (T k)) ∧ (17 ≤ tk ∧ tk < 100)
theorem SlotR.fr {S S' : M9} {W : Nat → Nat → Prop} {c z' p tk w z : Nat} {T : Nat → Nat} (h : SlotR S p tk w T z) (hF : Fr S S' W c z') (h8 : ¬ W 8 p) (ht : ∀ a, ¬ W tk a) : SlotR S' p tk w T z := by
  obtain ⟨t, h1, h2, h3, h4, h5, h6, h7⟩ := h
  obtain ⟨x1, x2, -⟩ := hF.1 p h1
  obtain ⟨y1, y2, -⟩ := hF.2.1 8 p h1 h8
  exact ⟨t, x1, x2.trans h2, by rw [y1]; exact h3, by rw [y1]; exact h4, by rw [y2]; exact h5, h6.fr hF (ht _), h7⟩
section SPS
variable {ks : Nat → Nat} {d : Nat} {Q : QP} {S : M9} {p st tk w z B L : Nat} {T : Nat → Nat} {C : CSt}
theorem sp_slotInit (hq : p ∈ gL S) (hk : gK S p = 8) (ht : 17 ≤ tk ∧ tk < 100) (hc : gC S + 1 ≤ cCM) (hz : gZ S + 10 ≤ cSM)
    (h : ∀ S', SlotR S' p tk 0 (fun _ => 0) 0 → Fr S S' (fun t a => t = 8 ∧ a = p) 1 10 → Q (.inl none) S') : WG ks (d + 1) n_X6_init [.ref p] S Q := by
  refine ⟨by simp [cat1, Value.category], by show (1 : Nat) ≤ 1; decide, ?_⟩
  show Run ks (WG ks d) Q tb_X6_init 0 [some (.ref p)] [] S
  simp only [e_X6_init_0, e_X6_init_1, e_X6_init_4, e_X6_init_5, e_X6_init_6, e_X6_init_9, e_X6_init_10, e_X6_init_12, e_X6_init_17, e_X6_init_18, e_X6_init_19, e_X6_init_22, o_const, o_iload, o_aload, o_fload, o_dload, o_istore, o_astore, o_fstore, o_dstore, o_iinc, o_bin, o_div, o_un, o_i2l, o_i2f, o_i2d, o_f2d, o_fdiv, o_ddiv, o_lcmp, o_fcmp, o_dcmp, o_if, o_if2, o_goto, o_dup, o_dupx1, o_dup2, o_pop, o_getI, o_getR, o_putI, o_putR, o_iald, o_iast, o_bald, o_bast, o_zald, o_zast, o_aald, o_aast, o_jald, o_jast, o_dald, o_dast, o_alen, o_castA, o_new, o_newa, o_callv, o_callvN, o_calli, o_calls, o_objinit, o_iret, o_zret, o_fret, o_dret, o_aret, o_vret, o_throw, o_acopy, o_bcopy, o_clone, o_tsw, o_ldcS, o_kval, o_kcoder, o_klen, o_kald, o_tald, o_getSq, o_callk, o_callvH, gl, stl, stl2, pre2, va_rf, Value.category, catS, List.length_cons, List.length_nil, List.map_cons, List.map_nil, List.sum_cons, List.sum_nil, List.take_succ_cons, List.take_zero, List.drop_succ_cons, List.drop_zero, List.reverse_cons, List.reverse_nil, List.nil_append, List.cons_append, true_and, and_true, if_true, Nat.reduceAdd, Nat.reduceLT, Nat.reduceLeDiff, hq, hk, cl_10, gL_sW, gL_sI, gL_sR, gL_sC, gL_nW, gK_sW, gK_sI, gK_sR, gK_sC, gK_nW, gN_sW, gN_sI, gN_sR, gN_sC, gN_nW, gC_sW, gC_sI, gC_sR, gC_sC, gC_nW, gZ_sW, gZ_sI, gZ_sR, gZ_sC, gZ_nW, narI]
  refine ⟨by decide, by omega, by omega, tk, ht.1, fun t htn => ?_⟩
  have F0 := Fr.sI S 8 p 0 0
  have htn' : ¬ t ∈ gL (sI S 8 p 0 0) := htn
  have F1 := F0.trans (Fr.nW (sI S 8 p 0 0) tk t 10 10 htn')
  have A1 := ArrR.nw (S := sI S 8 p 0 0) (t := tk) (n := 10) (z := 10) htn'
  obtain ⟨q1, q2, -⟩ := F1.1 p hq
  have G0 : gI (nW (sI S 8 p 0 0) tk t 10 10) 8 p 0 = 0 := by rw [gI_nWk, if_neg (fun w => absurd w.1 (by omega)), gI_sIk, if_pos ⟨rfl, rfl, rfl⟩]
  generalize nW (sI S 8 p 0 0) tk t 10 10 = S1 at F1 A1 q1 q2 G0 ⊢
  rw [e_X6_init_14]
  simp only [e_X6_init_0, e_X6_init_1, e_X6_init_4, e_X6_init_5, e_X6_init_6, e_X6_init_9, e_X6_init_10, e_X6_init_12, e_X6_init_14, e_X6_init_17, e_X6_init_18, e_X6_init_19, e_X6_init_22, o_const, o_iload, o_aload, o_fload, o_dload, o_istore, o_astore, o_fstore, o_dstore, o_iinc, o_bin, o_div, o_un, o_i2l, o_i2f, o_i2d, o_f2d, o_fdiv, o_ddiv, o_lcmp, o_fcmp, o_dcmp, o_if, o_if2, o_goto, o_dup, o_dupx1, o_dup2, o_pop, o_getI, o_getR, o_putI, o_putR, o_iald, o_iast, o_bald, o_bast, o_zald, o_zast, o_aald, o_aast, o_jald, o_jast, o_dald, o_dast, o_alen, o_castA, o_new, o_newa, o_callv, o_callvN, o_calli, o_calls, o_objinit, o_iret, o_zret, o_fret, o_dret, o_aret, o_vret, o_throw, o_acopy, o_bcopy, o_clone, o_tsw, o_ldcS, o_kval, o_kcoder, o_klen, o_kald, o_tald, o_getSq, o_callk, o_callvH, gl, stl, stl2, pre2, va_rf, Value.category, catS, List.length_cons, List.length_nil, List.map_cons, List.map_nil, List.sum_cons, List.sum_nil, List.take_succ_cons, List.take_zero, List.drop_succ_cons, List.drop_zero, List.reverse_cons, List.reverse_nil, List.nil_append, List.cons_append, true_and, and_true, if_true, Nat.reduceAdd, Nat.reduceLT, Nat.reduceLeDiff, q1, q2.trans hk, gL_sW, gL_sI, gL_sR, gL_sC, gL_nW, gK_sW, gK_sI, gK_sR, gK_sC, gK_nW, gN_sW, gN_sI, gN_sR, gN_sC, gN_nW, gC_sW, gC_sI, gC_sR, gC_sC, gC_nW, gZ_sW, gZ_sI, gZ_sR, gZ_sC, gZ_nW, narI]
  have F2 := (Fr.sR S1 8 p 1 (some t)).trans (Fr.sI (sR S1 8 p 1 (some t)) 8 p 2 0)
  exact h _ ⟨t, (F2.1 p q1).1, (F2.1 p q1).2.1.trans (q2.trans hk), by rw [gI_sIk, if_neg (fun w => absurd w.2.2 (by decide)), gI_sR, G0]; rfl, by rw [gI_sIk, if_pos ⟨rfl, rfl, rfl⟩]; rfl, by rw [gR_sI, gR_sRk, if_pos ⟨rfl, rfl, rfl⟩], A1.fr F2 (fun w => by omega), ht⟩ ((F1.trans F2).mono (fun t a _ w => by
    rcases w with (w | w) | w | w
    · exact w
    · exact w.elim
    · exact w
    · exact w) (by decide) (by decide))
theorem sp_slotKeep (hR : SlotR S p tk w T z) (hS : StateR S st B L C)
    (h : ∀ S', SlotR S' p tk (aWm (sSet C)) (sTab C) (sNoi C) → Fr S S' (fun t a => (t = 8 ∧ a = p) ∨ t = tk) 0 0 → gR S' 8 p = gR S 8 p → Q (.inl none) S') : WG ks (d + 1) n_X6_keep [.ref p, .ref st] S Q := by
  refine ⟨by simp [cat1, Value.category], by show (2 : Nat) ≤ 2; decide, ?_⟩
  show Run ks (WG ks d) Q tb_X6_keep 0 [some (.ref p), some (.ref st)] [] S
  obtain ⟨t, h1, h2, h3, h4, h5, ⟨a1, a2, a3, a4⟩, h7⟩ := hR
  obtain ⟨su, tb, kp, sn, dr, pq1, pq2, pq3, pq4, pq5, pq6, pq7, pq8, hSet, hSV, ⟨tn1, tn2, tn3, tn4⟩, hKept, hSeen, ⟨df, dn1, dn2, dn3, dn4⟩, hB⟩ := hS
  obtain ⟨o5, a5, t5, c5, u5, hp, hpk, f0, f3, f7, r1, r2, r4, r5, r6, ⟨zo1, zo2, zo3, zo4⟩, ⟨za1, za2, za3, za4⟩, ⟨zt1, zt2, zt3, zt4⟩, ⟨zc1, zc2, zc3, zc4⟩, ⟨zu1, zu2, zu3, zu4⟩⟩ := hSet
  have c0 : Int32.toNatClampNeg 0 = 0 := by decide
  simp only [e_X6_keep_0, e_X6_keep_1, e_X6_keep_2, e_X6_keep_5, e_X6_keep_8, e_X6_keep_11, e_X6_keep_12, e_X6_keep_15, e_X6_keep_16, e_X6_keep_17, e_X6_keep_20, e_X6_keep_21, e_X6_keep_23, e_X6_keep_26, e_X6_keep_27, e_X6_keep_28, e_X6_keep_31, e_X6_keep_34, o_const, o_iload, o_aload, o_fload, o_dload, o_istore, o_astore, o_fstore, o_dstore, o_iinc, o_bin, o_div, o_un, o_i2l, o_i2f, o_i2d, o_f2d, o_fdiv, o_ddiv, o_lcmp, o_fcmp, o_dcmp, o_if, o_if2, o_goto, o_dup, o_dupx1, o_dup2, o_pop, o_getI, o_getR, o_putI, o_putR, o_iald, o_iast, o_bald, o_bast, o_zald, o_zast, o_aald, o_aast, o_jald, o_jast, o_dald, o_dast, o_alen, o_castA, o_new, o_newa, o_callv, o_callvN, o_calli, o_calls, o_objinit, o_iret, o_zret, o_fret, o_dret, o_aret, o_vret, o_throw, o_acopy, o_bcopy, o_clone, o_tsw, o_ldcS, o_kval, o_kcoder, o_klen, o_kald, o_tald, o_getSq, o_callk, o_callvH, gl, stl, stl2, pre2, va_rf, Value.category, catS, List.length_cons, List.length_nil, List.map_cons, List.map_nil, List.sum_cons, List.sum_nil, List.take_succ_cons, List.take_zero, List.drop_succ_cons, List.drop_zero, List.reverse_cons, List.reverse_nil, List.nil_append, List.cons_append, true_and, and_true, if_true, Nat.reduceAdd, Nat.reduceLT, Nat.reduceLeDiff, pq1, pq2, pq3, pq4, pq5, pq6, pq7, pq8, tn1, tn2, tn3, dn1, dn2, dn3, hp, hpk, f0, f3, f7, r1, r2, r4, r5, r6, zo1, zo2, zo3, za1, za2, za3, zt1, zt2, zt3, zc1, zc2, zc3, zu1, zu2, zu3, h1, h2, h5, a1, a2, a3, gL_sW, gL_sI, gL_sR, gL_sC, gL_nW, gK_sW, gK_sI, gK_sR, gK_sC, gK_nW, gN_sW, gN_sI, gN_sR, gN_sC, gN_nW, gC_sW, gC_sI, gC_sR, gC_sC, gC_nW, gZ_sW, gZ_sI, gZ_sR, gZ_sC, gZ_nW, narI, gR_sI, gR_sW, c0, cl_10, Nat.zero_add]
  have k9 : ¬ 9 = tk := by omega
  have e2 : ∀ f, gI (sW (sI S 8 p 0 (nI (aWm (sSet C)))) tk t f) 9 st 2 = nI (sNoi C) := fun f => by rw [gI_sW, if_neg (fun w => k9 w.1), gI_sIk, if_neg (fun w => absurd w.1 (by decide))]; exact pq5
  rw [e2]
  have F1 := (Fr.sI S 8 p 0 (nI (aWm (sSet C)))).trans ((Fr.sW (sI S 8 p 0 (nI (aWm (sSet C)))) tk t (va_cpy (gI (sI S 8 p 0 (nI (aWm (sSet C)))) B tb) (gI (sI S 8 p 0 (nI (aWm (sSet C)))) tk t) 0 0 10)).trans (Fr.sI (sW (sI S 8 p 0 (nI (aWm (sSet C)))) tk t (va_cpy (gI (sI S 8 p 0 (nI (aWm (sSet C)))) B tb) (gI (sI S 8 p 0 (nI (aWm (sSet C)))) tk t) 0 0 10)) 8 p 2 (nI (sNoi C))))
  have k8 : ¬ 8 = tk := by omega
  have kB : ¬ B = 8 := by omega
  refine ⟨by omega, h7.1, by decide, by decide, by decide, h _ ⟨t, (F1.1 p h1).1, (F1.1 p h1).2.1.trans h2, ?_, ?_, ?_, ⟨(F1.1 t a1).1, (F1.1 t a1).2.1.trans a2, (F1.1 t a1).2.2.trans a3, fun j hj => ?_⟩, h7⟩ (F1.mono (fun t' a _ w => ?_) (by decide) (by decide)) rfl⟩
  · rw [gI_sIk, if_neg (fun w => absurd w.2.2 (by decide)), gI_sW, if_neg (fun w => k8 w.1), gI_sIk, if_pos ⟨rfl, rfl, rfl⟩]
  · rw [gI_sIk, if_pos ⟨rfl, rfl, rfl⟩]
  · rw [gR_sI, gR_sW, gR_sI]; exact h5
  · rw [gI_sIk, if_neg (fun w => k8 w.1.symm), gI_W]
    have e : va_cpy (gI (sI S 8 p 0 (nI (aWm (sSet C)))) B tb) (gI (sI S 8 p 0 (nI (aWm (sSet C)))) tk t) 0 0 10 j = gI (sI S 8 p 0 (nI (aWm (sSet C)))) B tb j := by simp [va_cpy, hj]
    rw [e, gI_sIk, if_neg (fun w => kB w.1)]; exact tn4 j hj
  · rcases w with w | w | w
    · exact Or.inl w
    · exact Or.inr w.1
    · exact Or.inl w
theorem sp_slotGive (hR : SlotR S p tk w T z) (hS : StateR S st B L C)
    (h : ∀ S', StateR S' st B L (setNoi (setTab C T) z) → Fr S S' (fun t a => (t = 9 ∧ a = st) ∨ t = B) 0 0 → gR S' 9 st = gR S 9 st → Q (.inl none) S') : WG ks (d + 1) n_X6_giveTo [.ref p, .ref st] S Q := by
  refine ⟨by simp [cat1, Value.category], by show (2 : Nat) ≤ 2; decide, ?_⟩
  show Run ks (WG ks d) Q tb_X6_giveTo 0 [some (.ref p), some (.ref st)] [] S
  obtain ⟨t, h1, h2, h3, h4, h5, ⟨a1, a2, a3, a4⟩, h7⟩ := hR
  have hS0 := hS
  obtain ⟨su, tb, kp, sn, dr, pq1, pq2, pq3, pq4, pq5, pq6, pq7, pq8, hSet, hSV, ⟨tn1, tn2, tn3, tn4⟩, hKept, hSeen, ⟨df, dn1, dn2, dn3, dn4⟩, hB⟩ := hS0
  have c0 : Int32.toNatClampNeg 0 = 0 := by decide
  have k8 : ¬ 8 = B := by omega
  simp only [e_X6_giveTo_0, e_X6_giveTo_1, e_X6_giveTo_4, e_X6_giveTo_5, e_X6_giveTo_6, e_X6_giveTo_9, e_X6_giveTo_10, e_X6_giveTo_12, e_X6_giveTo_15, e_X6_giveTo_16, e_X6_giveTo_17, e_X6_giveTo_20, e_X6_giveTo_23, o_const, o_iload, o_aload, o_fload, o_dload, o_istore, o_astore, o_fstore, o_dstore, o_iinc, o_bin, o_div, o_un, o_i2l, o_i2f, o_i2d, o_f2d, o_fdiv, o_ddiv, o_lcmp, o_fcmp, o_dcmp, o_if, o_if2, o_goto, o_dup, o_dupx1, o_dup2, o_pop, o_getI, o_getR, o_putI, o_putR, o_iald, o_iast, o_bald, o_bast, o_zald, o_zast, o_aald, o_aast, o_jald, o_jast, o_dald, o_dast, o_alen, o_castA, o_new, o_newa, o_callv, o_callvN, o_calli, o_calls, o_objinit, o_iret, o_zret, o_fret, o_dret, o_aret, o_vret, o_throw, o_acopy, o_bcopy, o_clone, o_tsw, o_ldcS, o_kval, o_kcoder, o_klen, o_kald, o_tald, o_getSq, o_callk, o_callvH, gl, stl, stl2, pre2, va_rf, Value.category, catS, List.length_cons, List.length_nil, List.map_cons, List.map_nil, List.sum_cons, List.sum_nil, List.take_succ_cons, List.take_zero, List.drop_succ_cons, List.drop_zero, List.reverse_cons, List.reverse_nil, List.nil_append, List.cons_append, true_and, and_true, if_true, Nat.reduceAdd, Nat.reduceLT, Nat.reduceLeDiff, pq1, pq2, pq3, pq4, pq5, pq6, pq7, pq8, tn1, tn2, tn3, dn1, dn2, dn3, h1, h2, h5, a1, a2, a3, gL_sW, gL_sI, gL_sR, gL_sC, gL_nW, gK_sW, gK_sI, gK_sR, gK_sC, gK_nW, gN_sW, gN_sI, gN_sR, gN_sC, gN_nW, gC_sW, gC_sI, gC_sR, gC_sC, gC_nW, gZ_sW, gZ_sI, gZ_sR, gZ_sC, gZ_nW, narI, gR_sI, gR_sW, gI_sW, k8, false_and, if_false, h4, c0, cl_10, Nat.zero_add]
  have F1 := Fr.sW S B tb (va_cpy (gI S tk t) (gI S B tb) 0 0 10)
  have hR1 := hS.tab (T := T) F1 (fun _ _ w => w.1) pq4 ⟨(F1.1 tb tn1).1, (F1.1 tb tn1).2.1.trans tn2, (F1.1 tb tn1).2.2.trans tn3, fun j hj => by
    show gI _ B tb j = nI (T j)
    rw [gI_W]
    have e : va_cpy (gI S tk t) (gI S B tb) 0 0 10 j = gI S tk t j := by simp [va_cpy, hj]
    rw [e]; exact a4 j hj⟩
  have F2 := Fr.sI (sW S B tb (va_cpy (gI S tk t) (gI S B tb) 0 0 10)) 9 st 2 (nI z)
  have kd : ¬ B + 7 = 9 := by omega
  have kd2 : ¬ B + 7 = B := by omega
  have hR2 := hR1.noi (z' := z) (D := df) F2 (fun _ _ w => Or.inl w) (by rw [gR_sI]) (by rw [gI_sIk, if_pos ⟨rfl, rfl, rfl⟩]) pq8 (fun j hj => by rw [gI_sIk, if_neg (fun w => kd w.1), gI_sW, if_neg (fun w => kd2 w.1)]; exact dn4 j hj)
  exact ⟨h7.1, by omega, by decide, by decide, by decide, h _ hR2 ((F1.trans F2).mono (fun t' a _ w => w.elim (fun w => Or.inr w.1) Or.inl) (by decide) (by decide)) (by rw [gR_sI, gR_sW])⟩
end SPS
