/-! A STATE, copied from another -/
section SPS
variable {ks : Nat → Nat} {d : Nat} {Q : QP} {S : M9} {p p2 B B2 L L2 : Nat} {C C2 : CSt}
theorem sp_stateCopy (hR : StateR S p B L C) (hR2 : StateR S p2 B2 L2 C2) (hne : ¬ p2 = p) (hBB : B + 8 ≤ B2 ∨ B2 + 8 ≤ B) (hk : ∀ x, gR S 9 p 3 = some x → ¬ gR S 9 p2 3 = some x) (hs : ∀ x, gR S 9 p 4 = some x → ¬ gR S 9 p2 4 = some x) (hn : (sSn C2).1 ≤ 10000) (hc : gC S + 2 ≤ cCM) (hz : gZ S + 2 * max (sSn C2).1 (2 * L) ≤ cSM)
    (h : ∀ S' L', StateR S' p B L' C2 → Fr S S' (StA S p B) 2 (4 * (L' - L)) → L ≤ L' → gR S' 9 p 3 = gR S 9 p 3 → gR S' 9 p 4 = gR S 9 p 4 → Q (.inl none) S') : WG ks (d + 5) n_X7_copyFrom [.ref p, .ref p2] S Q := by
  refine ⟨by simp [cat1, Value.category], by show (2 : Nat) ≤ 2; decide, ?_⟩
  show Run ks (WG ks (d + 4)) Q tb_X7_copyFrom 0 [some (.ref p), some (.ref p2)] [] S
  have hRc := hR
  have hRd := hR2
  obtain ⟨su, tb, kp, sn, dr, pq1, pq2, pq3, pq4, pq5, pq6, pq7, pq8, hSet, hSV, ⟨tn1, tn2, tn3, tn4⟩, hKept, hSeen, ⟨df, dn1, dn2, dn3, dn4⟩, hB⟩ := hRc
  obtain ⟨su2, tb2, kp2, sn2, dr2, qq1, qq2, qq3, qq4, qq5, qq6, qq7, qq8, hSet2, hSV2, ⟨t21, t22, t23, t24⟩, hKept2, hSeen2, -, hB2⟩ := hRd
  have e1 : ∀ t j v, gI (sR S 9 p 0 v) t p2 j = gI S t p2 j := fun t j v => by rw [gI_sR]
  have c0 : Int32.toNatClampNeg 0 = 0 := by decide
  simp only [e_X7_copyFrom_0, e_X7_copyFrom_1, e_X7_copyFrom_2, e_X7_copyFrom_5, e_X7_copyFrom_8, e_X7_copyFrom_9, e_X7_copyFrom_10, e_X7_copyFrom_13, e_X7_copyFrom_16, e_X7_copyFrom_17, e_X7_copyFrom_20, e_X7_copyFrom_21, e_X7_copyFrom_22, e_X7_copyFrom_25, e_X7_copyFrom_26, e_X7_copyFrom_28, e_X7_copyFrom_31, e_X7_copyFrom_32, e_X7_copyFrom_35, e_X7_copyFrom_36, e_X7_copyFrom_39, e_X7_copyFrom_42, e_X7_copyFrom_43, e_X7_copyFrom_46, e_X7_copyFrom_47, e_X7_copyFrom_50, e_X7_copyFrom_53, o_const, o_iload, o_aload, o_fload, o_dload, o_istore, o_astore, o_fstore, o_dstore, o_iinc, o_bin, o_div, o_un, o_i2l, o_i2f, o_i2d, o_f2d, o_fdiv, o_ddiv, o_lcmp, o_fcmp, o_dcmp, o_if, o_if2, o_goto, o_dup, o_dupx1, o_dup2, o_pop, o_getI, o_getR, o_putI, o_putR, o_iald, o_iast, o_bald, o_bast, o_zald, o_zast, o_aald, o_aast, o_jald, o_jast, o_dald, o_dast, o_alen, o_castA, o_new, o_newa, o_callv, o_callvN, o_calli, o_calls, o_objinit, o_iret, o_zret, o_fret, o_dret, o_aret, o_vret, o_throw, o_acopy, o_bcopy, o_clone, o_tsw, o_ldcS, o_kval, o_kcoder, o_klen, o_kald, o_tald, o_getSq, o_callk, o_callvH, gl, stl, stl2, pre2, va_rf, Value.category, catS, List.length_cons, List.length_nil, List.map_cons, List.map_nil, List.sum_cons, List.sum_nil, List.take_succ_cons, List.take_zero, List.drop_succ_cons, List.drop_zero, List.reverse_cons, List.reverse_nil, List.nil_append, List.cons_append, true_and, and_true, if_true, Nat.reduceAdd, Nat.reduceLT, Nat.reduceLeDiff, pq1, pq2, pq3, pq4, pq5, pq6, pq7, pq8, tn1, tn2, tn3, dn1, dn2, dn3, qq1, qq2, qq3, qq4, qq5, qq6, qq7, t21, t22, t23, gL_sW, gL_sI, gL_sR, gL_sC, gL_nW, gK_sW, gK_sI, gK_sR, gK_sC, gK_nW, gN_sW, gN_sI, gN_sR, gN_sC, gN_nW, gC_sW, gC_sI, gC_sR, gC_sC, gC_nW, gZ_sW, gZ_sI, gZ_sR, gZ_sC, gZ_nW, narI, gR_sI, gR_sW, gR_sRk, gI_sR, hne, false_and, and_false, if_false, c0, cl_10, Nat.zero_add, Nat.reduceEqDiff, Nat.one_ne_zero]
  have hR1 := hR.w.set hSet2 hSV2 (z := sNoi C2)
  have F1 := ((Fr.sR S 9 p 0 (some su2)).trans (Fr.sI (sR S 9 p 0 (some su2)) 9 p 2 (nI (sNoi C2)))).mono (W' := fun t a => t = 9 ∧ a = p) (fun t a _ w => w.elim id id) (Nat.le_refl _) (Nat.le_refl _)
  have hne' : ¬ p = p2 := fun e => hne e.symm
  have hA2 : ∀ t a, StA S p2 B2 t a → ¬ (t = 9 ∧ a = p) := fun t a w1 w2 => by rcases w1 with w | w | w | w <;> omega
  have hR21 := hR2.fr F1 (fun w => hne w.2) hA2 (fun a w => by omega) (fun t a h1 h2 w => by omega)
  have g0 : ∀ j, ¬ j = 0 → gR (sI (sR S 9 p 0 (some su2)) 9 p 2 (nI (sNoi C2))) 9 p j = gR S 9 p j := fun j hj => by rw [gR_sI, gR_sRk, if_neg (fun w => hj w.2.2)]
  have g2 : gR (sI (sR S 9 p 0 (some su2)) 9 p 2 (nI (sNoi C2))) 9 p2 = gR S 9 p2 := (F1.2.1 9 p2 qq1 (fun w => hne w.2)).2.1
  have z1 : ∀ j, j < 10 → gI (sI (sR S 9 p 0 (some su2)) 9 p 2 (nI (sNoi C2))) B2 tb2 j = nI (sTab C2 j) := fun j hj => by rw [(F1.2.1 B2 tb2 t21 (fun w => by omega)).1]; exact t24 j hj
  generalize sI (sR S 9 p 0 (some su2)) 9 p 2 (nI (sNoi C2)) = S1 at F1 hR1 hR21 g0 g2 z1 ⊢
  obtain ⟨x1, x2, x3⟩ := F1.1 tb tn1
  have F2 := Fr.sW S1 B tb (va_cpy (gI S1 B2 tb2) (gI S1 B tb) 0 0 10)
  have hRS2 := hR1.tab (T := sTab C2) F2 (fun t a w => w.1) (by rw [g0 _ (by decide)]; exact pq4) ⟨(F2.1 _ x1).1, (F2.1 _ x1).2.1.trans (x2.trans tn2), (F2.1 _ x1).2.2.trans (x3.trans tn3), fun j hj => by
    show gI _ B tb j = nI (sTab C2 j)
    rw [gI_W]
    have e : va_cpy (gI S1 B2 tb2) (gI S1 B tb) 0 0 10 j = gI S1 B2 tb2 j := by simp [va_cpy, hj]
    rw [e]; exact z1 j hj⟩
  have hA22 : ∀ t a, StA S1 p2 B2 t a → ¬ (t = B ∧ a = tb) := fun t a w1 w2 => by rcases w1 with w | w | w | w <;> omega
  have hR22 := hR21.fr F2 (fun w => by omega) hA22 (fun a w => by omega) (fun t a h1 h2 w => by omega)
  have g02 : ∀ j, ¬ j = 0 → gR (sW S1 B tb (va_cpy (gI S1 B2 tb2) (gI S1 B tb) 0 0 10)) 9 p j = gR S 9 p j := fun j hj => by rw [gR_sW]; exact g0 j hj
  have g22 : gR (sW S1 B tb (va_cpy (gI S1 B2 tb2) (gI S1 B tb) 0 0 10)) 9 p2 = gR S 9 p2 := by rw [gR_sW]; exact g2
  have F12 := F1.trans F2
  generalize sW S1 B tb (va_cpy (gI S1 B2 tb2) (gI S1 B tb) 0 0 10) = S2 at F2 hRS2 hR22 g02 g22 F12 ⊢
  have hRe := hRS2
  have hRf := hR22
  obtain ⟨su3, tb3, kp3, sn3, dr3, rr1, rr2, rr3, rr4, rr5, rr6, rr7, rr8, -, -, -, hK3, hN3, -, -⟩ := hRe
  obtain ⟨su4, tb4, kp4, sn4, dr4, ss1, ss2, ss3, ss4, ss5, ss6, ss7, ss8, -, -, -, hK4, hN4, -, -⟩ := hRf
  have ek3 : kp3 = kp := Option.some.inj (rr6.symm.trans ((g02 3 (by decide)).trans pq6))
  have ek4 : kp4 = kp2 := Option.some.inj (ss6.symm.trans ((congrFun g22 3).trans qq6))
  subst ek3 ek4
  have nkk : ¬ kp4 = kp3 := fun e => hk kp3 pq6 (by rw [← e]; exact qq6)
  have hK30 := hK3
  obtain ⟨ki, kc, kb, ko, kk1, kk2, -⟩ := hKept
  refine ⟨by omega, by omega, by decide, by decide, by decide, ⟨kp3, _, rfl, rfl, kk1, kk2⟩, sp_keptCopy hK3 hK4 nkk (fun a w => by omega) ?_⟩
  intro S5 hK5 F5 g5
  have hR5 := hRS2.kp (K := sKp C2) F5 (fun t a w => by rcases w with w | w | w | w | w; exact Or.inl w; all_goals exact Or.inr (by omega)) rr6 hK5
  have nK9 : ∀ a, ¬ KeptA S2 kp3 (B + 1) (B + 2) (B + 3) (B + 4) 9 a := fun a w => by rcases w with w | w | w | w | w <;> omega
  have hA25 : ∀ t a, StA S2 p2 B2 t a → ¬ KeptA S2 kp3 (B + 1) (B + 2) (B + 3) (B + 4) t a := fun t a w1 w2 => by
    rcases w1 with w | w | w | w <;> rcases w2 with u | u | u | u | u <;> try omega
    exact nkk (Option.some.inj (ss6.symm.trans (w.2.trans (by rw [u.2]))))
  have hR25 := hR22.fr F5 (nK9 _) hA25 (fun a w => by rcases w with w | w | w | w | w <;> omega) (fun t a h1 h2 w => by rcases w with w | w | w | w | w <;> omega)
  have g95 : gR S5 9 p = gR S2 9 p := (F5.2.1 9 p rr1 (nK9 _)).2.1
  have g295 : gR S5 9 p2 = gR S2 9 p2 := (F5.2.1 9 p2 ss1 (nK9 _)).2.1
  have F15 := F12.trans F5
  have hRg := hR5
  have hRh := hR25
  obtain ⟨su5, tb5, kp5, sn5, dr5, vv1, vv2, vv3, vv4, vv5, vv6, vv7, vv8, -, -, -, hK6, hN5, -, -⟩ := hRg
  obtain ⟨su6, tb6, kp6, sn6, dr6, yy1, yy2, yy3, yy4, yy5, yy6, yy7, yy8, -, -, -, hK7, hN6, -, -⟩ := hRh
  have es5 : gR S5 9 p 4 = gR S 9 p 4 := by rw [g95]; exact g02 4 (by decide)
  have es6 : gR S5 9 p2 4 = gR S 9 p2 4 := by rw [g295, g22]
  have en : ¬ sn6 = sn5 := fun e => hs sn5 (by rw [← es5]; exact vv7) (by rw [← es6, ← e]; exact yy7)
  simp only [behind, e_X7_copyFrom_0, e_X7_copyFrom_1, e_X7_copyFrom_2, e_X7_copyFrom_5, e_X7_copyFrom_8, e_X7_copyFrom_9, e_X7_copyFrom_10, e_X7_copyFrom_13, e_X7_copyFrom_16, e_X7_copyFrom_17, e_X7_copyFrom_20, e_X7_copyFrom_21, e_X7_copyFrom_22, e_X7_copyFrom_25, e_X7_copyFrom_26, e_X7_copyFrom_28, e_X7_copyFrom_31, e_X7_copyFrom_32, e_X7_copyFrom_35, e_X7_copyFrom_36, e_X7_copyFrom_39, e_X7_copyFrom_42, e_X7_copyFrom_43, e_X7_copyFrom_46, e_X7_copyFrom_47, e_X7_copyFrom_50, e_X7_copyFrom_53, o_const, o_iload, o_aload, o_fload, o_dload, o_istore, o_astore, o_fstore, o_dstore, o_iinc, o_bin, o_div, o_un, o_i2l, o_i2f, o_i2d, o_f2d, o_fdiv, o_ddiv, o_lcmp, o_fcmp, o_dcmp, o_if, o_if2, o_goto, o_dup, o_dupx1, o_dup2, o_pop, o_getI, o_getR, o_putI, o_putR, o_iald, o_iast, o_bald, o_bast, o_zald, o_zast, o_aald, o_aast, o_jald, o_jast, o_dald, o_dast, o_alen, o_castA, o_new, o_newa, o_callv, o_callvN, o_calli, o_calls, o_objinit, o_iret, o_zret, o_fret, o_dret, o_aret, o_vret, o_throw, o_acopy, o_bcopy, o_clone, o_tsw, o_ldcS, o_kval, o_kcoder, o_klen, o_kald, o_tald, o_getSq, o_callk, o_callvH, gl, stl, stl2, pre2, va_rf, Value.category, catS, List.length_cons, List.length_nil, List.map_cons, List.map_nil, List.sum_cons, List.sum_nil, List.take_succ_cons, List.take_zero, List.drop_succ_cons, List.drop_zero, List.reverse_cons, List.reverse_nil, List.nil_append, List.cons_append, true_and, and_true, if_true, Nat.reduceAdd, Nat.reduceLT, Nat.reduceLeDiff, vv1, vv2, yy1, yy2, vv7, yy7]
  have hN50 := hN5
  obtain ⟨c6, t6, bb1, bb2, -⟩ := hN50
  have hcz : gC S5 ≤ gC S ∧ gZ S5 ≤ gZ S := ⟨by have := F15.2.2.1; omega, by have := F15.2.2.2; omega⟩
  refine ⟨⟨sn5, _, rfl, rfl, bb1, bb2⟩, sp_seenCopy hN5 hN6 en ⟨by omega, by omega, by omega, by omega⟩ hn (by omega) (by omega) ?_⟩
  intro S7 L7 hN7 hL7 F7 hA7
  have nS9 : ∀ a, ¬ SeenA S5 sn5 (B + 5) (B + 6) 9 a := fun a w => by rcases w with w | w | w <;> omega
  have hR7 := hR5.sn (N := sSn C2) F7 (fun t a w => by rcases w with w | w | w; exact Or.inl w; all_goals exact Or.inr (by omega)) vv7 hN7
  have g97 : gR S7 9 p = gR S5 9 p := (F7.2.1 9 p vv1 (nS9 _)).2.1
  simp only [behind, e_X7_copyFrom_0, e_X7_copyFrom_1, e_X7_copyFrom_2, e_X7_copyFrom_5, e_X7_copyFrom_8, e_X7_copyFrom_9, e_X7_copyFrom_10, e_X7_copyFrom_13, e_X7_copyFrom_16, e_X7_copyFrom_17, e_X7_copyFrom_20, e_X7_copyFrom_21, e_X7_copyFrom_22, e_X7_copyFrom_25, e_X7_copyFrom_26, e_X7_copyFrom_28, e_X7_copyFrom_31, e_X7_copyFrom_32, e_X7_copyFrom_35, e_X7_copyFrom_36, e_X7_copyFrom_39, e_X7_copyFrom_42, e_X7_copyFrom_43, e_X7_copyFrom_46, e_X7_copyFrom_47, e_X7_copyFrom_50, e_X7_copyFrom_53, o_const, o_iload, o_aload, o_fload, o_dload, o_istore, o_astore, o_fstore, o_dstore, o_iinc, o_bin, o_div, o_un, o_i2l, o_i2f, o_i2d, o_f2d, o_fdiv, o_ddiv, o_lcmp, o_fcmp, o_dcmp, o_if, o_if2, o_goto, o_dup, o_dupx1, o_dup2, o_pop, o_getI, o_getR, o_putI, o_putR, o_iald, o_iast, o_bald, o_bast, o_zald, o_zast, o_aald, o_aast, o_jald, o_jast, o_dald, o_dast, o_alen, o_castA, o_new, o_newa, o_callv, o_callvN, o_calli, o_calls, o_objinit, o_iret, o_zret, o_fret, o_dret, o_aret, o_vret, o_throw, o_acopy, o_bcopy, o_clone, o_tsw, o_ldcS, o_kval, o_kcoder, o_klen, o_kald, o_tald, o_getSq, o_callk, o_callvH, gl, stl, stl2, pre2, va_rf, Value.category, catS, List.length_cons, List.length_nil, List.map_cons, List.map_nil, List.sum_cons, List.sum_nil, List.take_succ_cons, List.take_zero, List.drop_succ_cons, List.drop_zero, List.reverse_cons, List.reverse_nil, List.nil_append, List.cons_append, true_and, and_true, if_true, Nat.reduceAdd, Nat.reduceLT, Nat.reduceLeDiff]
  refine h S7 L7 hR7 ((F15.trans F7).mono (fun t a _ w => ?_) (by omega) (by omega)) hL7 (by rw [g97, g95]; exact g02 3 (by decide)) (by rw [g97, g95]; exact g02 4 (by decide))
  rcases w with (((w | w) | w)) | w
  · exact Or.inl w
  · exact Or.inr (Or.inl (by omega))
  · rcases w with w | w | w | w | w
    · exact Or.inr (Or.inr (Or.inl ⟨w.1, by rw [w.2]; exact pq6⟩))
    all_goals exact Or.inr (Or.inl (by omega))
  · rcases w with w | w | w
    · exact Or.inr (Or.inr (Or.inr ⟨w.1, by rw [w.2, ← es5]; exact vv7⟩))
    all_goals exact Or.inr (Or.inl (by omega))
end SPS
