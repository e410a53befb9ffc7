/-! THE CONVERTER: changes of the table and the noise, one conversion -/
def rSetT (C : CSt) (w to : Int32) : Nat := if inI w (aWm (sSet C)) then (if ¬ to < 0 ∧ to ≤ 1023 then 0 else 2) else 1
def tabW (C : CSt) (w to : Int32) : CSt := setTab C (fun j => if j = w.toNatClampNeg then to.toNatClampNeg else sTab C j)
def rArg (lo hi v : Int32) : Nat := if ¬ v < lo ∧ v ≤ hi then 0 else 1
theorem rArg_k {hi : Nat} {v : Int32} (hh : hi < 2 ^ 31) (h : ¬ v < 0 ∧ v ≤ nI hi) : ∃ k, k ≤ hi ∧ v = nI k ∧ v.toNatClampNeg = k := by
  obtain ⟨k, hk, rfl⟩ := nI_of h.1
  exact ⟨k, (nI_leI hk hh).mp h.2, rfl, nI_clamp hk⟩
theorem rArg_k1 {hi : Nat} {v : Int32} (hh : hi < 2 ^ 31) (h : ¬ v < 1 ∧ v ≤ nI hi) : ∃ k, 1 ≤ k ∧ k ≤ hi ∧ v = nI k ∧ v.toNatClampNeg = k := by
  obtain ⟨k, k1, k2, k3⟩ := rArg_k hh ⟨fun z => h.1 (Int32.lt_trans z (by decide)), h.2⟩
  refine ⟨k, ?_, k1, k2, k3⟩
  rcases Nat.eq_zero_or_pos k with e | e
  · subst e; rw [k2] at h; exact absurd (by decide) h.1
  · exact e
section SPS
variable {ks : Nat → Nat} {d : Nat} {Q : QP} {S : M9} {x M u v tl hn wn fr : Nat} {T Wt : Nat → Int32} {eA : Int32} {H : Nat → CSt} {C : CSt} {s0 s1 : CSl}
theorem cr_rm (hm : u + 60 ≤ cCM ∧ v + 900000 ≤ cSM) (hR : CR S x M u v tl T eA hn H C wn Wt s0 s1 fr) : Rm S := by
  obtain ⟨st, L, hQ, g1, g2, -⟩ := cr_st (c := 0) hR
  exact ⟨by omega, by omega⟩
theorem stA_n {S : M9} {st t a : Nat} (h : StA S st 164 t a) : ¬ nX t := by
  unfold nX
  intro w
  rcases h with q | q | q | q <;> omega
theorem sp_setTable (hm : u + 60 ≤ cCM ∧ v + 900000 ≤ cSM) (hM : M ≤ 10000) (hR : CR S x M u v tl T eA hn H C wn Wt s0 s1 fr) {w to : Int32}
    (h1 : ∀ S', rSetT C w to = 0 → CR S' x M (u + 2) v tl T eA (min (hn + 1) 8) (pushH C H) (tabW C w to) wn Wt s0 s1 0 → Fr S S' (fun t _ => ¬ nX t) 2 80000 → Q (.inl (some (.int (nI (sTab C w.toNatClampNeg))))) S')
    (h0 : rSetT C w to = 1 → Q (.inr IOB) (sC S 1 6)) (h2 : rSetT C w to = 2 → Q (.inr IAE) (sC S 1 6)) : WG ks (d + 8) n_X8_setTable [.ref x, .int w, .int to] S Q := by
  refine ⟨by simp [cat1, Value.category], by show (3 : Nat) ≤ 4; decide, ?_⟩
  show Run ks (WG ks (d + 7)) Q tb_X8_setTable 0 [some (.ref x), some (.int w), some (.int to), none] [] S
  have hrm := cr_rm hm hR
  obtain ⟨st, L, hQ⟩ := cr_q hR
  have hQ0 := hQ
  obtain ⟨q1, q2, q3, hSt, hV⟩ := hQ0
  simp only [e_X8_setTable_0, e_X8_setTable_1, e_X8_setTable_2, e_X8_setTable_5, e_X8_setTable_6, e_X8_setTable_7, e_X8_setTable_10, e_X8_setTable_13, e_X8_setTable_14, e_X8_setTable_17, e_X8_setTable_18, e_X8_setTable_21, e_X8_setTable_24, e_X8_setTable_25, e_X8_setTable_26, e_X8_setTable_27, e_X8_setTable_28, e_X8_setTable_31, e_X8_setTable_34, e_X8_setTable_35, e_X8_setTable_36, e_X8_setTable_37, e_X8_setTable_38, o_const, o_iload, o_aload, o_fload, o_dload, o_istore, o_astore, o_fstore, o_dstore, o_iinc, o_bin, o_div, o_un, o_i2l, o_i2f, o_i2d, o_f2d, o_fdiv, o_ddiv, o_lcmp, o_fcmp, o_dcmp, o_if, o_if2, o_goto, o_dup, o_dupx1, o_dup2, o_pop, o_getI, o_getR, o_putI, o_putR, o_iald, o_iast, o_bald, o_bast, o_zald, o_zast, o_aald, o_aast, o_jald, o_jast, o_dald, o_dast, o_alen, o_castA, o_new, o_newa, o_callv, o_callvN, o_calli, o_calls, o_objinit, o_iret, o_zret, o_fret, o_dret, o_aret, o_vret, o_throw, o_acopy, o_bcopy, o_clone, o_tsw, o_ldcS, o_kval, o_kcoder, o_klen, o_kald, o_tald, o_getSq, o_callk, o_callvH, gl, stl, stl2, pre2, va_rf, Value.category, catS, List.length_cons, List.length_nil, List.map_cons, List.map_nil, List.sum_cons, List.sum_nil, List.take_succ_cons, List.take_zero, List.drop_succ_cons, List.drop_zero, List.reverse_cons, List.reverse_nil, List.nil_append, List.cons_append, true_and, and_true, if_true, Nat.reduceAdd, Nat.reduceLT, Nat.reduceLeDiff, q1, q2]
  refine ⟨⟨x, _, rfl, rfl, q1, q2⟩, sp_reqWeight hrm hQ (fun hin => ?_) (fun hin => ?_)⟩
  · simp only [behind, e_X8_setTable_0, e_X8_setTable_1, e_X8_setTable_2, e_X8_setTable_5, e_X8_setTable_6, e_X8_setTable_7, e_X8_setTable_10, e_X8_setTable_13, e_X8_setTable_14, e_X8_setTable_17, e_X8_setTable_18, e_X8_setTable_21, e_X8_setTable_24, e_X8_setTable_25, e_X8_setTable_26, e_X8_setTable_27, e_X8_setTable_28, e_X8_setTable_31, e_X8_setTable_34, e_X8_setTable_35, e_X8_setTable_36, e_X8_setTable_37, e_X8_setTable_38, o_const, o_iload, o_aload, o_fload, o_dload, o_istore, o_astore, o_fstore, o_dstore, o_iinc, o_bin, o_div, o_un, o_i2l, o_i2f, o_i2d, o_f2d, o_fdiv, o_ddiv, o_lcmp, o_fcmp, o_dcmp, o_if, o_if2, o_goto, o_dup, o_dupx1, o_dup2, o_pop, o_getI, o_getR, o_putI, o_putR, o_iald, o_iast, o_bald, o_bast, o_zald, o_zast, o_aald, o_aast, o_jald, o_jast, o_dald, o_dast, o_alen, o_castA, o_new, o_newa, o_callv, o_callvN, o_calli, o_calls, o_objinit, o_iret, o_zret, o_fret, o_dret, o_aret, o_vret, o_throw, o_acopy, o_bcopy, o_clone, o_tsw, o_ldcS, o_kval, o_kcoder, o_klen, o_kald, o_tald, o_getSq, o_callk, o_callvH, gl, stl, stl2, pre2, va_rf, Value.category, catS, List.length_cons, List.length_nil, List.map_cons, List.map_nil, List.sum_cons, List.sum_nil, List.take_succ_cons, List.take_zero, List.drop_succ_cons, List.drop_zero, List.reverse_cons, List.reverse_nil, List.nil_append, List.cons_append, true_and, and_true, if_true, Nat.reduceAdd, Nat.reduceLT, Nat.reduceLeDiff]
    refine sp_reqArg hrm (fun ha => ?_) (fun ha => ?_)
    · simp only [behind, e_X8_setTable_0, e_X8_setTable_1, e_X8_setTable_2, e_X8_setTable_5, e_X8_setTable_6, e_X8_setTable_7, e_X8_setTable_10, e_X8_setTable_13, e_X8_setTable_14, e_X8_setTable_17, e_X8_setTable_18, e_X8_setTable_21, e_X8_setTable_24, e_X8_setTable_25, e_X8_setTable_26, e_X8_setTable_27, e_X8_setTable_28, e_X8_setTable_31, e_X8_setTable_34, e_X8_setTable_35, e_X8_setTable_36, e_X8_setTable_37, e_X8_setTable_38, o_const, o_iload, o_aload, o_fload, o_dload, o_istore, o_astore, o_fstore, o_dstore, o_iinc, o_bin, o_div, o_un, o_i2l, o_i2f, o_i2d, o_f2d, o_fdiv, o_ddiv, o_lcmp, o_fcmp, o_dcmp, o_if, o_if2, o_goto, o_dup, o_dupx1, o_dup2, o_pop, o_getI, o_getR, o_putI, o_putR, o_iald, o_iast, o_bald, o_bast, o_zald, o_zast, o_aald, o_aast, o_jald, o_jast, o_dald, o_dast, o_alen, o_castA, o_new, o_newa, o_callv, o_callvN, o_calli, o_calls, o_objinit, o_iret, o_zret, o_fret, o_dret, o_aret, o_vret, o_throw, o_acopy, o_bcopy, o_clone, o_tsw, o_ldcS, o_kval, o_kcoder, o_klen, o_kald, o_tald, o_getSq, o_callk, o_callvH, gl, stl, stl2, pre2, va_rf, Value.category, catS, List.length_cons, List.length_nil, List.map_cons, List.map_nil, List.sum_cons, List.sum_nil, List.take_succ_cons, List.take_zero, List.drop_succ_cons, List.drop_zero, List.reverse_cons, List.reverse_nil, List.nil_append, List.cons_append, true_and, and_true, if_true, Nat.reduceAdd, Nat.reduceLT, Nat.reduceLeDiff, q1, q2]
      refine ⟨⟨x, _, rfl, rfl, q1, q2⟩, sp_beginChange hm hM hR ?_⟩
      intro S1 hR1 F1
      obtain ⟨st1, L1, hQ1, g1, g2, g3, hcont⟩ := cr_st (c := 0) hR1
      obtain ⟨p1, p2, p3, hSt1, hV1⟩ := hQ1
      have hSc := hSt1
      obtain ⟨su, tb, kp, sn, dr, pq1, pq2, pq3, pq4, pq5, pq6, pq7, pq8, hSet, hSV, ⟨tn1, tn2, tn3, tn4⟩, hKept, hSeen, ⟨df, dn1, dn2, dn3, dn4⟩, hB⟩ := hSc
      have hw10 := hSV.2.1.2
      obtain ⟨j, j1, rfl, j3⟩ := inI_k (by omega) hin
      obtain ⟨k, k1, rfl, k3⟩ := rArg_k (hi := 1023) (by decide) ha
      simp only [behind, e_X8_setTable_0, e_X8_setTable_1, e_X8_setTable_2, e_X8_setTable_5, e_X8_setTable_6, e_X8_setTable_7, e_X8_setTable_10, e_X8_setTable_13, e_X8_setTable_14, e_X8_setTable_17, e_X8_setTable_18, e_X8_setTable_21, e_X8_setTable_24, e_X8_setTable_25, e_X8_setTable_26, e_X8_setTable_27, e_X8_setTable_28, e_X8_setTable_31, e_X8_setTable_34, e_X8_setTable_35, e_X8_setTable_36, e_X8_setTable_37, e_X8_setTable_38, o_const, o_iload, o_aload, o_fload, o_dload, o_istore, o_astore, o_fstore, o_dstore, o_iinc, o_bin, o_div, o_un, o_i2l, o_i2f, o_i2d, o_f2d, o_fdiv, o_ddiv, o_lcmp, o_fcmp, o_dcmp, o_if, o_if2, o_goto, o_dup, o_dupx1, o_dup2, o_pop, o_getI, o_getR, o_putI, o_putR, o_iald, o_iast, o_bald, o_bast, o_zald, o_zast, o_aald, o_aast, o_jald, o_jast, o_dald, o_dast, o_alen, o_castA, o_new, o_newa, o_callv, o_callvN, o_calli, o_calls, o_objinit, o_iret, o_zret, o_fret, o_dret, o_aret, o_vret, o_throw, o_acopy, o_bcopy, o_clone, o_tsw, o_ldcS, o_kval, o_kcoder, o_klen, o_kald, o_tald, o_getSq, o_callk, o_callvH, gl, stl, stl2, pre2, va_rf, Value.category, catS, List.length_cons, List.length_nil, List.map_cons, List.map_nil, List.sum_cons, List.sum_nil, List.take_succ_cons, List.take_zero, List.drop_succ_cons, List.drop_zero, List.reverse_cons, List.reverse_nil, List.nil_append, List.cons_append, true_and, and_true, if_true, Nat.reduceAdd, Nat.reduceLT, Nat.reduceLeDiff, p1, p2, p3, pq1, pq2, pq3, pq4, pq5, pq6, pq7, pq8, tn1, tn2, tn3, dn1, dn2, dn3, j3, tn4 j (by omega)]
      refine ⟨vp_in_nI (by omega) (by decide), vp_in_nI (by omega) (by decide), ?_⟩
      have F2 := Fr.sI S1 164 tb j (nI k)
      have hS2 := hSt1.tab (T := fun i => if i = j then k else sTab C i) F2 (fun t a w => w.1) pq4 ⟨(F2.1 tb tn1).1, (F2.1 tb tn1).2.1.trans tn2, (F2.1 tb tn1).2.2.trans tn3, fun i hi => by
        show gI _ 164 tb i = nI (if i = j then k else sTab C i)
        rw [gI_sIk]
        by_cases e : i = j
        · rw [if_pos ⟨rfl, rfl, e⟩, if_pos e]
        · rw [if_neg (fun z => e z.2.2), if_neg e]; exact tn4 i hi⟩
      have F2' : Fr S1 (sI S1 164 tb j (nI k)) (StA S1 st1 164) 0 (4 * (L1 - L1)) := F2.mono (fun t a _ w => Or.inr (Or.inl (by omega))) (Nat.le_refl _) (Nat.zero_le _)
      have hfin := hcont _ L1 (setTab C (fun i => if i = j then k else sTab C i)) M hS2 ⟨hV1.1, fun i hi => by
        show (if i = j then k else sTab C i) ≤ 1023
        split
        · exact k1
        · exact hV1.2.1 i hi, hV1.2.2⟩ (Nat.le_refl _) F2' (Nat.le_refl _) (by rw [gR_sI]) (by rw [gR_sI]) (Or.inl rfl)
      have hh := h1 (sI S1 164 tb j (nI k)) (by unfold rSetT; rw [if_pos hin, if_pos ha]) (by unfold tabW; rw [j3, k3]; exact hfin) ((F1.trans F2).mono (fun t a _ w => w.elim id (fun w => by unfold nX; omega)) (by omega) (by omega))
      rw [j3] at hh
      exact hh
    · simp only [behind]
      exact h2 (by unfold rSetT; rw [if_pos hin, if_neg ha])
  · simp only [behind]
    exact h0 (by unfold rSetT; rw [if_neg hin])
theorem sp_setNoise (hm : u + 60 ≤ cCM ∧ v + 900000 ≤ cSM) (hM : M ≤ 10000) (hR : CR S x M u v tl T eA hn H C wn Wt s0 s1 fr) {to : Int32}
    (h1 : ∀ S', rArg 0 65535 to = 0 → CR S' x M (u + 2) v tl T eA (min (hn + 1) 8) (pushH C H) (setNoi C to.toNatClampNeg) wn Wt s0 s1 0 → Fr S S' (fun t _ => ¬ nX t) 2 80000 → Q (.inl (some (.int (nI (sNoi C))))) S')
    (h0 : rArg 0 65535 to = 1 → Q (.inr IAE) (sC S 1 6)) : WG ks (d + 8) n_X8_setNoise [.ref x, .int to] S Q := by
  refine ⟨by simp [cat1, Value.category], by show (2 : Nat) ≤ 3; decide, ?_⟩
  show Run ks (WG ks (d + 7)) Q tb_X8_setNoise 0 [some (.ref x), some (.int to), none] [] S
  have hrm := cr_rm hm hR
  obtain ⟨st, L, hQ⟩ := cr_q hR
  have hQ0 := hQ
  obtain ⟨q1, q2, q3, hSt, hV⟩ := hQ0
  simp only [e_X8_setNoise_0, e_X8_setNoise_1, e_X8_setNoise_2, e_X8_setNoise_4, e_X8_setNoise_7, e_X8_setNoise_8, e_X8_setNoise_11, e_X8_setNoise_12, e_X8_setNoise_15, e_X8_setNoise_18, e_X8_setNoise_19, e_X8_setNoise_20, e_X8_setNoise_23, e_X8_setNoise_24, e_X8_setNoise_27, e_X8_setNoise_28, o_const, o_iload, o_aload, o_fload, o_dload, o_istore, o_astore, o_fstore, o_dstore, o_iinc, o_bin, o_div, o_un, o_i2l, o_i2f, o_i2d, o_f2d, o_fdiv, o_ddiv, o_lcmp, o_fcmp, o_dcmp, o_if, o_if2, o_goto, o_dup, o_dupx1, o_dup2, o_pop, o_getI, o_getR, o_putI, o_putR, o_iald, o_iast, o_bald, o_bast, o_zald, o_zast, o_aald, o_aast, o_jald, o_jast, o_dald, o_dast, o_alen, o_castA, o_new, o_newa, o_callv, o_callvN, o_calli, o_calls, o_objinit, o_iret, o_zret, o_fret, o_dret, o_aret, o_vret, o_throw, o_acopy, o_bcopy, o_clone, o_tsw, o_ldcS, o_kval, o_kcoder, o_klen, o_kald, o_tald, o_getSq, o_callk, o_callvH, gl, stl, stl2, pre2, va_rf, Value.category, catS, List.length_cons, List.length_nil, List.map_cons, List.map_nil, List.sum_cons, List.sum_nil, List.take_succ_cons, List.take_zero, List.drop_succ_cons, List.drop_zero, List.reverse_cons, List.reverse_nil, List.nil_append, List.cons_append, true_and, and_true, if_true, Nat.reduceAdd, Nat.reduceLT, Nat.reduceLeDiff, q1, q2]
  refine sp_reqArg hrm (fun ha => ?_) (fun ha => ?_)
  · simp only [behind, e_X8_setNoise_0, e_X8_setNoise_1, e_X8_setNoise_2, e_X8_setNoise_4, e_X8_setNoise_7, e_X8_setNoise_8, e_X8_setNoise_11, e_X8_setNoise_12, e_X8_setNoise_15, e_X8_setNoise_18, e_X8_setNoise_19, e_X8_setNoise_20, e_X8_setNoise_23, e_X8_setNoise_24, e_X8_setNoise_27, e_X8_setNoise_28, o_const, o_iload, o_aload, o_fload, o_dload, o_istore, o_astore, o_fstore, o_dstore, o_iinc, o_bin, o_div, o_un, o_i2l, o_i2f, o_i2d, o_f2d, o_fdiv, o_ddiv, o_lcmp, o_fcmp, o_dcmp, o_if, o_if2, o_goto, o_dup, o_dupx1, o_dup2, o_pop, o_getI, o_getR, o_putI, o_putR, o_iald, o_iast, o_bald, o_bast, o_zald, o_zast, o_aald, o_aast, o_jald, o_jast, o_dald, o_dast, o_alen, o_castA, o_new, o_newa, o_callv, o_callvN, o_calli, o_calls, o_objinit, o_iret, o_zret, o_fret, o_dret, o_aret, o_vret, o_throw, o_acopy, o_bcopy, o_clone, o_tsw, o_ldcS, o_kval, o_kcoder, o_klen, o_kald, o_tald, o_getSq, o_callk, o_callvH, gl, stl, stl2, pre2, va_rf, Value.category, catS, List.length_cons, List.length_nil, List.map_cons, List.map_nil, List.sum_cons, List.sum_nil, List.take_succ_cons, List.take_zero, List.drop_succ_cons, List.drop_zero, List.reverse_cons, List.reverse_nil, List.nil_append, List.cons_append, true_and, and_true, if_true, Nat.reduceAdd, Nat.reduceLT, Nat.reduceLeDiff, q1, q2]
    refine ⟨⟨x, _, rfl, rfl, q1, q2⟩, sp_beginChange hm hM hR ?_⟩
    intro S1 hR1 F1
    obtain ⟨st1, L1, hQ1, g1, g2, g3, hcont⟩ := cr_st (c := 0) hR1
    obtain ⟨p1, p2, p3, hSt1, hV1⟩ := hQ1
    have hSc := hSt1
    obtain ⟨su, tb, kp, sn, dr, pq1, pq2, pq3, pq4, pq5, pq6, pq7, pq8, hSet, hSV, ⟨tn1, tn2, tn3, tn4⟩, hKept, hSeen, ⟨df, dn1, dn2, dn3, dn4⟩, hB⟩ := hSc
    obtain ⟨k, k1, rfl, k3⟩ := rArg_k (hi := 65535) (by decide) ha
    simp only [behind, e_X8_setNoise_0, e_X8_setNoise_1, e_X8_setNoise_2, e_X8_setNoise_4, e_X8_setNoise_7, e_X8_setNoise_8, e_X8_setNoise_11, e_X8_setNoise_12, e_X8_setNoise_15, e_X8_setNoise_18, e_X8_setNoise_19, e_X8_setNoise_20, e_X8_setNoise_23, e_X8_setNoise_24, e_X8_setNoise_27, e_X8_setNoise_28, o_const, o_iload, o_aload, o_fload, o_dload, o_istore, o_astore, o_fstore, o_dstore, o_iinc, o_bin, o_div, o_un, o_i2l, o_i2f, o_i2d, o_f2d, o_fdiv, o_ddiv, o_lcmp, o_fcmp, o_dcmp, o_if, o_if2, o_goto, o_dup, o_dupx1, o_dup2, o_pop, o_getI, o_getR, o_putI, o_putR, o_iald, o_iast, o_bald, o_bast, o_zald, o_zast, o_aald, o_aast, o_jald, o_jast, o_dald, o_dast, o_alen, o_castA, o_new, o_newa, o_callv, o_callvN, o_calli, o_calls, o_objinit, o_iret, o_zret, o_fret, o_dret, o_aret, o_vret, o_throw, o_acopy, o_bcopy, o_clone, o_tsw, o_ldcS, o_kval, o_kcoder, o_klen, o_kald, o_tald, o_getSq, o_callk, o_callvH, gl, stl, stl2, pre2, va_rf, Value.category, catS, List.length_cons, List.length_nil, List.map_cons, List.map_nil, List.sum_cons, List.sum_nil, List.take_succ_cons, List.take_zero, List.drop_succ_cons, List.drop_zero, List.reverse_cons, List.reverse_nil, List.nil_append, List.cons_append, true_and, and_true, if_true, Nat.reduceAdd, Nat.reduceLT, Nat.reduceLeDiff, p1, p2, p3, pq1, pq2, pq3, pq4, pq5, pq6, pq7, pq8, tn1, tn2, tn3, dn1, dn2, dn3, gL_sW, gL_sI, gL_sR, gL_sC, gL_nW, gK_sW, gK_sI, gK_sR, gK_sC, gK_nW, gN_sW, gN_sI, gN_sR, gN_sC, gN_nW, gC_sW, gC_sI, gC_sR, gC_sC, gC_nW, gZ_sW, gZ_sI, gZ_sR, gZ_sC, gZ_nW, narI]
    have F2 := Fr.sI S1 9 st1 2 (nI k)
    have hS2 := hSt1.noi (z' := k) (D := df) F2 (fun t a w => Or.inl w) (by rw [gR_sI]) (by rw [gI_sIk, if_pos ⟨rfl, rfl, rfl⟩]) pq8 (fun i hi => by rw [gI_sIk, if_neg (fun z => absurd z.1 (by decide))]; exact dn4 i hi)
    have hfin := hcont _ L1 (setNoi C k) M hS2 ⟨k1, hV1.2⟩ (Nat.le_refl _) (F2.mono (fun t a _ w => Or.inl w) (Nat.le_refl _) (Nat.zero_le _)) (Nat.le_refl _) (by rw [gR_sI]) (by rw [gR_sI]) (Or.inl rfl)
    exact h1 _ (by unfold rArg; rw [if_pos ha]) (by rw [k3]; exact hfin) ((F1.trans F2).mono (fun t a _ w => w.elim id (fun w => by unfold nX; omega)) (by omega) (by omega))
  · simp only [behind]
    exact h0 (by unfold rArg; rw [if_neg ha])
end SPS
