/-! THE CONVERTER: restore, undo -/
section SPS
variable {ks : Nat → Nat} {d : Nat} {Q : QP} {S : M9} {x M u v tl hn wn fr : Nat} {T Wt : Nat → Int32} {eA : Int32} {H : Nat → CSt} {C : CSt} {s0 s1 : CSl}
def rstC (C : CSt) (s : CSl) : CSt := setNoi (setTab C s.2.1) s.2.2
theorem sp_rest_tl (hm : u + 70 ≤ cCM ∧ v + 900000 ≤ cSM) (hM : M ≤ 9900) (hR : CR S x M u v tl T eA hn H C wn Wt s0 s1 fr) {p tk : Nat} {s : CSl} {c : Int32} (hpp : gR S 10 x 8 = some p ∧ tk = 63 ∧ s = s0 ∨ gR S 10 x 9 = some p ∧ tk = 64 ∧ s = s1)
    (h1 : ∀ S', s.1 = aWm (sSet C) → CR S' x M (u + 2) v tl T eA (min (hn + 1) 8) (pushH C H) (rstC C s) wn Wt s0 s1 0 → Fr S S' (fun t _ => ¬ nX t) 2 80000 → Q (.inl (some (.int (nI (cvC (rstC C s) (-1)))))) S')
    (h2 : ¬ s.1 = aWm (sSet C) → Q (.inr ISE) (sC S 1 6)) : Run ks (WG ks (d + 7)) Q tb_X8_restore 5 [some (.ref x), some (.int c), none] [.ref p] S := by
  have hrm := cr_rm (by omega) hR
  obtain ⟨m1, m2⟩ := hrm
  obtain ⟨st, L, hQ⟩ := cr_q hR
  obtain ⟨q1, q2, q3, hSt, hV⟩ := hQ
  have hs := hSt
  obtain ⟨su, tb, kp, sn, dr, pq1, pq2, pq3, pq4, pq5, pq6, pq7, pq8, hSet, hSV, ⟨tn1, tn2, tn3, tn4⟩, hKept, hSeen, ⟨df, dn1, dn2, dn3, dn4⟩, hB⟩ := hs
  have hSet0 := hSet
  obtain ⟨o5, a5, t5, c5, u5, hp, hpk, f0, f3, f7, r1, r2, r4, r5, r6, ⟨zo1, zo2, zo3, zo4⟩, ⟨za1, za2, za3, za4⟩, ⟨zt1, zt2, zt3, zt4⟩, ⟨zc1, zc2, zc3, zc4⟩, ⟨zu1, zu2, zu3, zu4⟩⟩ := hSet0
  have hw := hSV.2.1.2
  have key : ∀ S', CR S' x M (u + 2) v tl T eA (min (hn + 1) 8) (pushH C H) C wn Wt s0 s1 0 → gR S' 10 x = gR S 10 x → SlotR S' p tk s.1 s.2.1 s.2.2 ∧ SlV s := by
    intro S' hR' hg
    obtain ⟨o0, o1, g8, g9, b1, b2, b4, b5, -, -⟩ := cr_sl hR'
    rw [hg] at g8 g9
    rcases hpp with ⟨w1, w2, w3⟩ | ⟨w1, w2, w3⟩
    · cases Option.some.inj (w1.symm.trans g8)
      subst w2 w3
      exact ⟨b1, b4⟩
    · cases Option.some.inj (w1.symm.trans g9)
      subst w2 w3
      exact ⟨b2, b5⟩
  have key0 : SlotR S p tk s.1 s.2.1 s.2.2 ∧ SlV s := by
    obtain ⟨o0, o1, g8, g9, b1, b2, b4, b5, -, -⟩ := cr_sl hR
    rcases hpp with ⟨w1, w2, w3⟩ | ⟨w1, w2, w3⟩
    · cases Option.some.inj (w1.symm.trans g8)
      subst w2 w3
      exact ⟨b1, b4⟩
    · cases Option.some.inj (w1.symm.trans g9)
      subst w2 w3
      exact ⟨b2, b5⟩
  obtain ⟨hS0, hV0⟩ := key0
  have hSx := hS0
  obtain ⟨t, r1, r2, r3, r4, r5, r6, r7⟩ := hSx
  simp only [e_X8_restore_0, e_X8_restore_1, e_X8_restore_2, e_X8_restore_5, e_X8_restore_6, e_X8_restore_7, e_X8_restore_10, e_X8_restore_11, e_X8_restore_14, e_X8_restore_17, e_X8_restore_20, e_X8_restore_23, e_X8_restore_26, e_X8_restore_34, e_X8_restore_35, e_X8_restore_38, e_X8_restore_39, e_X8_restore_40, e_X8_restore_43, e_X8_restore_46, e_X8_restore_47, e_X8_restore_50, e_X8_restore_53, o_const, o_iload, o_aload, o_fload, o_dload, o_istore, o_astore, o_fstore, o_dstore, o_iinc, o_bin, o_div, o_un, o_i2l, o_i2f, o_i2d, o_f2d, o_fdiv, o_ddiv, o_lcmp, o_fcmp, o_dcmp, o_if, o_if2, o_goto, o_dup, o_dupx1, o_dup2, o_pop, o_getI, o_getR, o_putI, o_putR, o_iald, o_iast, o_bald, o_bast, o_zald, o_zast, o_aald, o_aast, o_jald, o_jast, o_dald, o_dast, o_alen, o_castA, o_new, o_newa, o_callv, o_callvN, o_calli, o_calls, o_objinit, o_iret, o_zret, o_fret, o_dret, o_aret, o_vret, o_throw, o_acopy, o_bcopy, o_clone, o_tsw, o_ldcS, o_kval, o_kcoder, o_klen, o_kald, o_tald, o_getSq, o_callk, o_callvH, gl, stl, stl2, pre2, va_rf, Value.category, catS, List.length_cons, List.length_nil, List.map_cons, List.map_nil, List.sum_cons, List.sum_nil, List.take_succ_cons, List.take_zero, List.drop_succ_cons, List.drop_zero, List.reverse_cons, List.reverse_nil, List.nil_append, List.cons_append, true_and, and_true, if_true, Nat.reduceAdd, Nat.reduceLT, Nat.reduceLeDiff, q1, q2, q3, pq1, pq2, pq3, pq4, pq5, pq6, pq7, pq8, tn1, tn2, tn3, dn1, dn2, dn3, hp, hpk, f0, f3, f7, r1, r2, r4, r5, r6, zo1, zo2, zo3, za1, za2, za3, zt1, zt2, zt3, zc1, zc2, zc3, zu1, zu2, zu3, r1, r2, r3]
  refine ⟨fun e => ?_, fun e => ⟨by omega, by omega, h2 (fun w => e (by rw [w]))⟩⟩
  have e1 : s.1 = aWm (sSet C) := (nI_eq (by have := hV0.1; omega) (by omega)).mp e
  refine ⟨⟨x, _, rfl, rfl, q1, q2⟩, sp_beginChange2 (by omega) (by omega) hR ?_⟩
  intro S1 hR1 F1 hg1 _
  obtain ⟨hS1, -⟩ := key S1 hR1 hg1
  obtain ⟨st1, L1, hQ1, g1, g2, g3, hcont⟩ := cr_st (c := 0) hR1
  obtain ⟨p1, p2, p3, hSt1, hV1⟩ := hQ1
  have hs1 := hSt1
  obtain ⟨_, _, _, _, _, y1, y2, -⟩ := hs1
  have hSy := hS1
  obtain ⟨t', i1, i2, -⟩ := hSy
  simp only [behind, e_X8_restore_0, e_X8_restore_1, e_X8_restore_2, e_X8_restore_5, e_X8_restore_6, e_X8_restore_7, e_X8_restore_10, e_X8_restore_11, e_X8_restore_14, e_X8_restore_17, e_X8_restore_20, e_X8_restore_23, e_X8_restore_26, e_X8_restore_34, e_X8_restore_35, e_X8_restore_38, e_X8_restore_39, e_X8_restore_40, e_X8_restore_43, e_X8_restore_46, e_X8_restore_47, e_X8_restore_50, e_X8_restore_53, o_const, o_iload, o_aload, o_fload, o_dload, o_istore, o_astore, o_fstore, o_dstore, o_iinc, o_bin, o_div, o_un, o_i2l, o_i2f, o_i2d, o_f2d, o_fdiv, o_ddiv, o_lcmp, o_fcmp, o_dcmp, o_if, o_if2, o_goto, o_dup, o_dupx1, o_dup2, o_pop, o_getI, o_getR, o_putI, o_putR, o_iald, o_iast, o_bald, o_bast, o_zald, o_zast, o_aald, o_aast, o_jald, o_jast, o_dald, o_dast, o_alen, o_castA, o_new, o_newa, o_callv, o_callvN, o_calli, o_calls, o_objinit, o_iret, o_zret, o_fret, o_dret, o_aret, o_vret, o_throw, o_acopy, o_bcopy, o_clone, o_tsw, o_ldcS, o_kval, o_kcoder, o_klen, o_kald, o_tald, o_getSq, o_callk, o_callvH, gl, stl, stl2, pre2, va_rf, Value.category, catS, List.length_cons, List.length_nil, List.map_cons, List.map_nil, List.sum_cons, List.sum_nil, List.take_succ_cons, List.take_zero, List.drop_succ_cons, List.drop_zero, List.reverse_cons, List.reverse_nil, List.nil_append, List.cons_append, true_and, and_true, if_true, Nat.reduceAdd, Nat.reduceLT, Nat.reduceLeDiff, p1, p2, p3]
  refine ⟨⟨p, _, rfl, rfl, i1, i2⟩, sp_slotGive hS1 hSt1 ?_⟩
  intro S2 hR2 F2 hg2
  have F2' : Fr S1 S2 (StA S1 st1 164) 0 (4 * (L1 - L1)) := F2.mono (fun t a _ w => w.elim Or.inl (fun w => Or.inr (Or.inl (by omega)))) (Nat.le_refl _) (Nat.zero_le _)
  have hfin := hcont S2 L1 (rstC C s) M hR2 ⟨hV0.2.2, fun k hk => hV0.2.1 k (by rw [e1]; exact hk), hV1.2.2⟩ (Nat.le_refl _) F2' (Nat.le_refl _) (by rw [hg2]) (by rw [hg2]) (Or.inl rfl)
  have n10 : ¬ StA S1 st1 164 10 x := fun w => by rcases w with w | w | w | w <;> omega
  have e10 := (F2'.2.1 10 x p1 n10).2.1
  simp only [behind, e_X8_restore_0, e_X8_restore_1, e_X8_restore_2, e_X8_restore_5, e_X8_restore_6, e_X8_restore_7, e_X8_restore_10, e_X8_restore_11, e_X8_restore_14, e_X8_restore_17, e_X8_restore_20, e_X8_restore_23, e_X8_restore_26, e_X8_restore_34, e_X8_restore_35, e_X8_restore_38, e_X8_restore_39, e_X8_restore_40, e_X8_restore_43, e_X8_restore_46, e_X8_restore_47, e_X8_restore_50, e_X8_restore_53, o_const, o_iload, o_aload, o_fload, o_dload, o_istore, o_astore, o_fstore, o_dstore, o_iinc, o_bin, o_div, o_un, o_i2l, o_i2f, o_i2d, o_f2d, o_fdiv, o_ddiv, o_lcmp, o_fcmp, o_dcmp, o_if, o_if2, o_goto, o_dup, o_dupx1, o_dup2, o_pop, o_getI, o_getR, o_putI, o_putR, o_iald, o_iast, o_bald, o_bast, o_zald, o_zast, o_aald, o_aast, o_jald, o_jast, o_dald, o_dast, o_alen, o_castA, o_new, o_newa, o_callv, o_callvN, o_calli, o_calls, o_objinit, o_iret, o_zret, o_fret, o_dret, o_aret, o_vret, o_throw, o_acopy, o_bcopy, o_clone, o_tsw, o_ldcS, o_kval, o_kcoder, o_klen, o_kald, o_tald, o_getSq, o_callk, o_callvH, gl, stl, stl2, pre2, va_rf, Value.category, catS, List.length_cons, List.length_nil, List.map_cons, List.map_nil, List.sum_cons, List.sum_nil, List.take_succ_cons, List.take_zero, List.drop_succ_cons, List.drop_zero, List.reverse_cons, List.reverse_nil, List.nil_append, List.cons_append, true_and, and_true, if_true, Nat.reduceAdd, Nat.reduceLT, Nat.reduceLeDiff, (F2.1 x p1).1, (F2.1 x p1).2.1.trans p2, e10, p3]
  refine ⟨⟨st1, _, rfl, rfl, (F2.1 st1 y1).1, (F2.1 st1 y1).2.1.trans y2⟩, sp_tableSum hR2 ?_⟩
  simp only [behind, e_X8_restore_0, e_X8_restore_1, e_X8_restore_2, e_X8_restore_5, e_X8_restore_6, e_X8_restore_7, e_X8_restore_10, e_X8_restore_11, e_X8_restore_14, e_X8_restore_17, e_X8_restore_20, e_X8_restore_23, e_X8_restore_26, e_X8_restore_34, e_X8_restore_35, e_X8_restore_38, e_X8_restore_39, e_X8_restore_40, e_X8_restore_43, e_X8_restore_46, e_X8_restore_47, e_X8_restore_50, e_X8_restore_53, o_const, o_iload, o_aload, o_fload, o_dload, o_istore, o_astore, o_fstore, o_dstore, o_iinc, o_bin, o_div, o_un, o_i2l, o_i2f, o_i2d, o_f2d, o_fdiv, o_ddiv, o_lcmp, o_fcmp, o_dcmp, o_if, o_if2, o_goto, o_dup, o_dupx1, o_dup2, o_pop, o_getI, o_getR, o_putI, o_putR, o_iald, o_iast, o_bald, o_bast, o_zald, o_zast, o_aald, o_aast, o_jald, o_jast, o_dald, o_dast, o_alen, o_castA, o_new, o_newa, o_callv, o_callvN, o_calli, o_calls, o_objinit, o_iret, o_zret, o_fret, o_dret, o_aret, o_vret, o_throw, o_acopy, o_bcopy, o_clone, o_tsw, o_ldcS, o_kval, o_kcoder, o_klen, o_kald, o_tald, o_getSq, o_callk, o_callvH, gl, stl, stl2, pre2, va_rf, Value.category, catS, List.length_cons, List.length_nil, List.map_cons, List.map_nil, List.sum_cons, List.sum_nil, List.take_succ_cons, List.take_zero, List.drop_succ_cons, List.drop_zero, List.reverse_cons, List.reverse_nil, List.nil_append, List.cons_append, true_and, and_true, if_true, Nat.reduceAdd, Nat.reduceLT, Nat.reduceLeDiff]
  exact h1 S2 e1 hfin ((F1.trans F2').mono (fun t a _ w => w.elim id stA_n) (by omega) (by omega))
theorem sp_restore (hm : u + 70 ≤ cCM ∧ v + 900000 ≤ cSM) (hM : M ≤ 9900) (hR : CR S x M u v tl T eA hn H C wn Wt s0 s1 fr) {c : Int32}
    (h1 : ∀ S' s, (c = 0 ∧ s = s0 ∨ c = 1 ∧ s = s1) → s.1 = aWm (sSet C) → CR S' x M (u + 2) v tl T eA (min (hn + 1) 8) (pushH C H) (rstC C s) wn Wt s0 s1 0 → Fr S S' (fun t _ => ¬ nX t) 2 80000 → Q (.inl (some (.int (nI (cvC (rstC C s) (-1)))))) S')
    (h2 : ∀ s, (c = 0 ∧ s = s0 ∨ c = 1 ∧ s = s1) → ¬ s.1 = aWm (sSet C) → Q (.inr ISE) (sC S 1 6)) (h0 : ¬ inI c 2 → Q (.inr IOB) (sC S 1 6)) : WG ks (d + 8) n_X8_restore [.ref x, .int c] S Q := by
  refine ⟨by simp [cat1, Value.category], by show (2 : Nat) ≤ 3; decide, ?_⟩
  show Run ks (WG ks (d + 7)) Q tb_X8_restore 0 [some (.ref x), some (.int c), none] [] S
  have hrm := cr_rm (by omega) hR
  obtain ⟨st, L, hQ⟩ := cr_q hR
  obtain ⟨q1, q2, q3, hSt, hV⟩ := hQ
  obtain ⟨o0, o1, g8, g9, -⟩ := cr_sl hR
  simp only [e_X8_restore_0, e_X8_restore_1, e_X8_restore_2, e_X8_restore_6, e_X8_restore_7, e_X8_restore_10, e_X8_restore_11, e_X8_restore_14, e_X8_restore_17, e_X8_restore_20, e_X8_restore_23, e_X8_restore_26, e_X8_restore_34, e_X8_restore_35, e_X8_restore_38, e_X8_restore_39, e_X8_restore_40, e_X8_restore_43, e_X8_restore_46, e_X8_restore_47, e_X8_restore_50, e_X8_restore_53, o_const, o_iload, o_aload, o_fload, o_dload, o_istore, o_astore, o_fstore, o_dstore, o_iinc, o_bin, o_div, o_un, o_i2l, o_i2f, o_i2d, o_f2d, o_fdiv, o_ddiv, o_lcmp, o_fcmp, o_dcmp, o_if, o_if2, o_goto, o_dup, o_dupx1, o_dup2, o_pop, o_getI, o_getR, o_putI, o_putR, o_iald, o_iast, o_bald, o_bast, o_zald, o_zast, o_aald, o_aast, o_jald, o_jast, o_dald, o_dast, o_alen, o_castA, o_new, o_newa, o_callv, o_callvN, o_calli, o_calls, o_objinit, o_iret, o_zret, o_fret, o_dret, o_aret, o_vret, o_throw, o_acopy, o_bcopy, o_clone, o_tsw, o_ldcS, o_kval, o_kcoder, o_klen, o_kald, o_tald, o_getSq, o_callk, o_callvH, gl, stl, stl2, pre2, va_rf, Value.category, catS, List.length_cons, List.length_nil, List.map_cons, List.map_nil, List.sum_cons, List.sum_nil, List.take_succ_cons, List.take_zero, List.drop_succ_cons, List.drop_zero, List.reverse_cons, List.reverse_nil, List.nil_append, List.cons_append, true_and, and_true, if_true, Nat.reduceAdd, Nat.reduceLT, Nat.reduceLeDiff, q1, q2]
  refine ⟨⟨x, _, rfl, rfl, q1, q2⟩, sp_slotOf hrm ⟨q1, q2⟩ g8 g9 (fun e => ?_) (fun e => ?_) (fun e => ?_)⟩
  · simp only [behind]
    exact sp_rest_tl hm hM hR (Or.inl ⟨g8, rfl, rfl⟩) (fun S' => h1 S' s0 (Or.inl ⟨e, rfl⟩)) (h2 s0 (Or.inl ⟨e, rfl⟩))
  · simp only [behind]
    exact sp_rest_tl hm hM hR (Or.inr ⟨g9, rfl, rfl⟩) (fun S' => h1 S' s1 (Or.inr ⟨e, rfl⟩)) (h2 s1 (Or.inr ⟨e, rfl⟩))
  · simp only [behind]
    exact h0 e
theorem sp_undo (hm : u + 70 ≤ cCM ∧ v + 900000 ≤ cSM) (hM : M ≤ 9900) (hR : CR S x M u v tl T eA hn H C wn Wt s0 s1 fr)
    (h1 : ∀ S', 0 < hn → CR S' x M (u + 2) v tl T eA (hn - 1) (fun i => H (i + 1)) (H 0) wn Wt s0 s1 0 → Fr S S' (fun t _ => ¬ nX t) 2 80000 → Q (.inl (some (.int (nI (hn - 1))))) S')
    (h2 : hn = 0 → Q (.inr ISE) (sC S 1 6)) : WG ks (d + 7) n_X8_undo [.ref x] S Q := by
  refine ⟨by simp [cat1, Value.category], by show (1 : Nat) ≤ 1; decide, ?_⟩
  show Run ks (WG ks (d + 6)) Q tb_X8_undo 0 [some (.ref x)] [] S
  have hrm := cr_rm (by omega) hR
  obtain ⟨m1, m2⟩ := hrm
  obtain ⟨tx, hi, rp, sb, o0, o1, nx, sa, ka, na, Ls, Cs, a1, a2, a3, a4, a5, a6, a7, a8, a9, a10, a11, ⟨b1, b2, b3, b4, b5⟩, a13⟩ := hR
  have hL : ∀ (S' : M9) (Ls' : Nat → Nat) (Cs' : Nat → CSt), NineR S' sa ka na Ls' Cs' → ∀ j, j < 9 → Ls' j ≤ 20000 := fun S' Ls' Cs' w9 j hj => by
    have := (w9.1 j hj).1
    obtain ⟨_, _, _, _, _, _, _, _, _, _, _, _, _, _, _, _, _, w, -⟩ := this
    obtain ⟨_, _, _, _, _, _, w5, -⟩ := w
    exact w5.2
  have hx := a1
  obtain ⟨x1, x2, x3, x4, x5, x6, x7, x8, x9, x10⟩ := hx
  have hHi := a7
  obtain ⟨r, e1, e2, e3, e4, e5, -⟩ := hHi
  have hL8 := hL S Ls Cs a4 8 (by decide)
  have hs := (a6 ((nx + 7) % 8) (by omega)).2.2.1
  simp only [e_X8_undo_0, e_X8_undo_1, e_X8_undo_4, e_X8_undo_7, e_X8_undo_10, e_X8_undo_13, e_X8_undo_21, e_X8_undo_22, e_X8_undo_25, e_X8_undo_26, e_X8_undo_29, e_X8_undo_32, e_X8_undo_33, e_X8_undo_34, e_X8_undo_37, e_X8_undo_38, e_X8_undo_41, e_X8_undo_44, o_const, o_iload, o_aload, o_fload, o_dload, o_istore, o_astore, o_fstore, o_dstore, o_iinc, o_bin, o_div, o_un, o_i2l, o_i2f, o_i2d, o_f2d, o_fdiv, o_ddiv, o_lcmp, o_fcmp, o_dcmp, o_if, o_if2, o_goto, o_dup, o_dupx1, o_dup2, o_pop, o_getI, o_getR, o_putI, o_putR, o_iald, o_iast, o_bald, o_bast, o_zald, o_zast, o_aald, o_aast, o_jald, o_jast, o_dald, o_dast, o_alen, o_castA, o_new, o_newa, o_callv, o_callvN, o_calli, o_calls, o_objinit, o_iret, o_zret, o_fret, o_dret, o_aret, o_vret, o_throw, o_acopy, o_bcopy, o_clone, o_tsw, o_ldcS, o_kval, o_kcoder, o_klen, o_kald, o_tald, o_getSq, o_callk, o_callvH, gl, stl, stl2, pre2, va_rf, Value.category, catS, List.length_cons, List.length_nil, List.map_cons, List.map_nil, List.sum_cons, List.sum_nil, List.take_succ_cons, List.take_zero, List.drop_succ_cons, List.drop_zero, List.reverse_cons, List.reverse_nil, List.nil_append, List.cons_append, true_and, and_true, if_true, Nat.reduceAdd, Nat.reduceLT, Nat.reduceLeDiff, x1, x2, x6, x7, e1, e2, e4]
  refine ⟨fun z => ?_, fun z => ⟨by omega, by omega, h2 ((nI_eq (b := 0) (by omega) (by decide)).mp (Classical.not_not.mp z))⟩⟩
  have hpos : 0 < hn := Nat.pos_of_ne_zero (fun w => z (by rw [w]; rfl))
  refine ⟨⟨hi, _, rfl, rfl, e1, e2⟩, sp_bringBack a4 a7 hpos (by omega) (by omega) (by omega) ?_⟩
  intro S1 L1 hN1 hH1 F1 hL1
  have q := fun t (w : t < 100 ∧ ¬ t = 2 ∧ ¬ t = 3 ∧ ¬ t = 6 ∧ ¬ t = 9) => nine_out (fun _ _ w => w) w (W := fun t a => (t = 2 ∧ a = hi) ∨ NineA t a)
  have c1 := a1.fr F1 (q 10 (by decide) _)
  have hL1' := hL S1 _ _ hN1 8 (by omega)
  simp only [upN, if_true] at hL1'
  have hxc := c1
  obtain ⟨y1, y2, y3, y4, y5, y6, y7, y8, y9, y10⟩ := hxc
  have hHj := hH1
  obtain ⟨r', f1, f2, f3, f4, -⟩ := hHj
  simp only [behind, e_X8_undo_0, e_X8_undo_1, e_X8_undo_4, e_X8_undo_7, e_X8_undo_10, e_X8_undo_13, e_X8_undo_21, e_X8_undo_22, e_X8_undo_25, e_X8_undo_26, e_X8_undo_29, e_X8_undo_32, e_X8_undo_33, e_X8_undo_34, e_X8_undo_37, e_X8_undo_38, e_X8_undo_41, e_X8_undo_44, o_const, o_iload, o_aload, o_fload, o_dload, o_istore, o_astore, o_fstore, o_dstore, o_iinc, o_bin, o_div, o_un, o_i2l, o_i2f, o_i2d, o_f2d, o_fdiv, o_ddiv, o_lcmp, o_fcmp, o_dcmp, o_if, o_if2, o_goto, o_dup, o_dupx1, o_dup2, o_pop, o_getI, o_getR, o_putI, o_putR, o_iald, o_iast, o_bald, o_bast, o_zald, o_zast, o_aald, o_aast, o_jald, o_jast, o_dald, o_dast, o_alen, o_castA, o_new, o_newa, o_callv, o_callvN, o_calli, o_calls, o_objinit, o_iret, o_zret, o_fret, o_dret, o_aret, o_vret, o_throw, o_acopy, o_bcopy, o_clone, o_tsw, o_ldcS, o_kval, o_kcoder, o_klen, o_kald, o_tald, o_getSq, o_callk, o_callvH, gl, stl, stl2, pre2, va_rf, Value.category, catS, List.length_cons, List.length_nil, List.map_cons, List.map_nil, List.sum_cons, List.sum_nil, List.take_succ_cons, List.take_zero, List.drop_succ_cons, List.drop_zero, List.reverse_cons, List.reverse_nil, List.nil_append, List.cons_append, true_and, and_true, if_true, Nat.reduceAdd, Nat.reduceLT, Nat.reduceLeDiff, y1, y2, y7, f1, f2, gL_sW, gL_sI, gL_sR, gL_sC, gL_nW, gK_sW, gK_sI, gK_sR, gK_sC, gK_nW, gN_sW, gN_sI, gN_sR, gN_sC, gN_nW, gC_sW, gC_sI, gC_sR, gC_sC, gC_nW, gZ_sW, gZ_sI, gZ_sR, gZ_sC, gZ_nW, gR_sI, gI_sIk, Nat.reduceEqDiff, false_and, if_false, f4]
  have F2 := Fr.sI S1 10 x 6 0
  have hu := sg_up (f := Ls) (k := 8) (v := L1) 9 (by omega)
  have F12 : Fr S (sI S1 10 x 6 0) (fun t _ => ¬ nX t) 2 80000 := (F1.trans F2).mono (fun t a ha w => by
    unfold nX
    rcases w with (w | w) | w
    · omega
    · unfold NineA at w; omega
    · have := w.1; omega) (by omega) (by omega)
  refine ⟨⟨rfl, rfl⟩, h1 _ hpos ⟨tx, hi, rp, sb, o0, o1, (nx + 7) % 8, sa, ka, na, upN Ls 8 L1, upN Cs 8 (Cs ((nx + 7) % 8)), ?_, (a2.fr F1 (q 60 (by decide) _)).fr F2 (fun w => absurd w.1 (by decide)), a3, hN1.fr F2 (fun t a w1 w2 => by unfold NineA at w1; omega) (fun a w => absurd w.1 (by decide)) (fun t a h1 h2 w => by omega), ?_, fun j hj => ?_, hH1.fr F2 (fun w => absurd w.1 (by decide)) (fun a w => absurd w.1 (by decide)), fun i hi2 => ?_, (a9.fr F1 (q 4 (by decide) _)).fr F2 (fun w => absurd w.1 (by decide)), Or.inl rfl, (a11.fr F1 (q 1 (by decide) _) (q 15 (by decide))).fr F2 (fun w => absurd w.1 (by decide)) (fun a w => absurd w.1 (by decide)), ⟨(b1.fr F1 (q 8 (by decide) _) (q 63 (by decide))).fr F2 (fun w => absurd w.1 (by decide)) (fun a w => absurd w.1 (by decide)), (b2.fr F1 (q 8 (by decide) _) (q 64 (by decide))).fr F2 (fun w => absurd w.1 (by decide)) (fun a w => absurd w.1 (by decide)), b3, b4, b5⟩, ?_, ?_⟩ F12⟩
  · have e : ∀ j, ¬ j = 6 → gI (sI S1 10 x 6 0) 10 x j = gI S1 10 x j := fun j hj => by rw [gI_sIk, if_neg (fun w => hj w.2.2)]
    exact ⟨(F2.1 x y1).1, (F2.1 x y1).2.1.trans y2, by rw [gR_sI]; exact y3, by rw [e _ (by decide)]; exact y4, by rw [e _ (by decide)]; exact y5, by rw [gR_sI]; exact y6, by rw [gR_sI]; exact y7, by rw [gR_sI]; exact y8, by rw [gI_sIk, if_pos ⟨rfl, rfl, rfl⟩]; rfl, by rw [gR_sI]; exact y10.1, by rw [gR_sI]; exact y10.2.1, by rw [gR_sI]; exact y10.2.2⟩
  · simp only [upN, if_true]
    rw [show (nx + 7) % 8 = (nx + 15 - 0) % 8 by omega]
    exact a8 0 hpos
  · by_cases e : j = 8
    · simp only [upN, if_pos e]; exact a6 _ (by omega)
    · simp only [upN, if_neg e]; exact a6 j hj
  · simp only [upN, if_neg (show ¬ ((nx + 7) % 8 + 15 - i) % 8 = 8 by omega)]
    rw [show ((nx + 7) % 8 + 15 - i) % 8 = (nx + 15 - (i + 1)) % 8 by omega]
    exact a8 (i + 1) (by omega)
  · have w := F1.2.2.1; have e : gC (sI S1 10 x 6 0) = gC S1 := rfl; omega
  · have w := F1.2.2.2; have e : gZ (sI S1 10 x 6 0) = gZ S1 := rfl; omega
end SPS
