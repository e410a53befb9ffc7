/-! THE CONVERTER: conversions, forgetting, the table as told -/
theorem nAdd_V {N : CSn} {M c : Nat} (h1 : N.1 ≤ M) (h2 : ∀ k, k < N.1 → N.2.2 k ≤ M) : (nAdd N c).1 ≤ M + 1 ∧ ∀ k, k < (nAdd N c).1 → (nAdd N c).2.2 k ≤ M + 1 := by
  unfold nAdd
  cases hp : plc N.2.1 (nI c) 0 N.1 with
  | none =>
    simp only [sAdd]
    refine ⟨by omega, fun k hk => ?_⟩
    split
    · omega
    · have := h2 k (by omega); omega
  | some j =>
    have hj := plc_lt _ _ _ hp
    simp only [sAdd]
    refine ⟨by omega, fun k hk => ?_⟩
    split
    · have := h2 j (by omega); have := h2 k (by omega); omega
    · have := h2 k (by omega); omega
theorem cvK_V {M x : Nat} {C : CSt} {D : Nat → Int32} (h : StV M C) (hS : SetV (sSet C)) : StV (M + 1) (cvK C x D) := by
  have := nAdd_V (c := cvC C (nB (sSet C) (nI x) (sNoi C) 0)) h.2.2.1 h.2.2.2.1
  refine ⟨nZ_b h.1, h.2.1, this.1, this.2, fun j => ?_⟩
  show (if j = (sKp C).2.1 then cvC C (nB (sSet C) (nI x) (sNoi C) 0) else (sKp C).2.2.2.1 j) ≤ 99999
  have hc := cvC_le hS h.2.1 (nB (sSet C) (nI x) (sNoi C) 0)
  split
  · omega
  · exact h.2.2.2.2 j
section SPS
variable {ks : Nat → Nat} {d : Nat} {Q : QP} {S : M9} {x M u v tl hn wn fr : Nat} {T Wt : Nat → Int32} {eA : Int32} {H : Nat → CSt} {C : CSt} {s0 s1 : CSl}
/-- one conversion of the present state, seen from the converter -/
theorem sp_cak (hm : u + 60 ≤ cCM ∧ v + 900000 ≤ cSM) (hM : M ≤ 9900) (hR : CR S x M u v tl T eA hn H C wn Wt s0 s1 0) {i : Nat} {st : Nat} (hst : gR S 10 x 3 = some st)
    (h : ∀ S' D, CR S' x (M + 1) (u + 2) v tl T eA hn H (cvK C i D) wn Wt s0 s1 0 → Fr S S' (fun t _ => ¬ nX t) 2 80000 → gR S' 10 x 3 = some st → Q (.inl (some (.int (nI (cvC C (nB (sSet C) (nI i) (sNoi C) 0)))))) S') : WG ks (d + 5) n_X7_convertAndKeep [.ref st, .int (nI i)] S Q := by
  obtain ⟨st1, L, hQ, g1, g2, g3, hcont⟩ := cr_st (c := 2) hR
  obtain ⟨p1, p2, p3, hSt, hV⟩ := hQ
  cases Option.some.inj (p3.symm.trans hst)
  have hn2 : (sSn C).1 ≤ M := hV.2.2.1
  refine sp_convertAndKeep hSt hV.1 (by omega) (by omega) (by omega) ?_
  intro S' L' D hR' F hL hg
  have hn10 : ¬ StA S st 164 10 x := fun w => by rcases w with w | w | w | w <;> omega
  have hL' : L' ≤ 20000 := by
    obtain ⟨_, _, _, _, _, _, _, _, _, _, _, _, _, _, _, _, _, w, -⟩ := hR'
    obtain ⟨_, _, _, _, _, _, w5, -⟩ := w
    exact w5.2
  exact h S' D (hcont S' L' _ (M + 1) hR' (cvK_V hV (by obtain ⟨_, _, _, _, _, _, _, _, _, _, _, _, _, _, w, -⟩ := hSt; exact w)) (by omega) F hL (by rw [hg]) (by rw [hg]) (Or.inl rfl)) (F.mono (fun t a _ w => stA_n w) (Nat.le_refl _) (by omega)) (by rw [(F.2.1 10 x p1 hn10).2.1]; exact p3)
theorem sp_convert (hm : u + 70 ≤ cCM ∧ v + 900000 ≤ cSM) (hM : M ≤ 9900) (hR : CR S x M u v tl T eA hn H C wn Wt s0 s1 fr) {i : Int32}
    (h1 : ∀ S' D, rArg 0 9999 i = 0 → CR S' x (M + 1) (u + 4) v tl T eA (min (hn + 1) 8) (pushH C H) (cvK C i.toNatClampNeg D) wn Wt s0 s1 0 → Fr S S' (fun t _ => ¬ nX t) 4 160000 → Q (.inl (some (.int (nI (cvC C (nB (sSet C) i (sNoi C) 0)))))) S')
    (h0 : rArg 0 9999 i = 1 → Q (.inr IAE) (sC S 1 6)) : WG ks (d + 8) n_X8_convert [.ref x, .int i] S Q := by
  refine ⟨by simp [cat1, Value.category], by show (2 : Nat) ≤ 2; decide, ?_⟩
  show Run ks (WG ks (d + 7)) Q tb_X8_convert 0 [some (.ref x), some (.int i)] [] S
  have hrm := cr_rm (by omega) hR
  obtain ⟨st, L, hQ⟩ := cr_q hR
  obtain ⟨q1, q2, q3, hSt, hV⟩ := hQ
  simp only [e_X8_convert_0, e_X8_convert_1, e_X8_convert_2, e_X8_convert_5, e_X8_convert_8, e_X8_convert_9, e_X8_convert_12, e_X8_convert_13, e_X8_convert_16, e_X8_convert_17, e_X8_convert_20, o_const, o_iload, o_aload, o_fload, o_dload, o_istore, o_astore, o_fstore, o_dstore, o_iinc, o_bin, o_div, o_un, o_i2l, o_i2f, o_i2d, o_f2d, o_fdiv, o_ddiv, o_lcmp, o_fcmp, o_dcmp, o_if, o_if2, o_goto, o_dup, o_dupx1, o_dup2, o_pop, o_getI, o_getR, o_putI, o_putR, o_iald, o_iast, o_bald, o_bast, o_zald, o_zast, o_aald, o_aast, o_jald, o_jast, o_dald, o_dast, o_alen, o_castA, o_new, o_newa, o_callv, o_callvN, o_calli, o_calls, o_objinit, o_iret, o_zret, o_fret, o_dret, o_aret, o_vret, o_throw, o_acopy, o_bcopy, o_clone, o_tsw, o_ldcS, o_kval, o_kcoder, o_klen, o_kald, o_tald, o_getSq, o_callk, o_callvH, gl, stl, stl2, pre2, va_rf, Value.category, catS, List.length_cons, List.length_nil, List.map_cons, List.map_nil, List.sum_cons, List.sum_nil, List.take_succ_cons, List.take_zero, List.drop_succ_cons, List.drop_zero, List.reverse_cons, List.reverse_nil, List.nil_append, List.cons_append, true_and, and_true, if_true, Nat.reduceAdd, Nat.reduceLT, Nat.reduceLeDiff, q1, q2]
  refine sp_reqArg hrm (fun ha => ?_) (fun ha => ?_)
  · simp only [behind, e_X8_convert_0, e_X8_convert_1, e_X8_convert_2, e_X8_convert_5, e_X8_convert_8, e_X8_convert_9, e_X8_convert_12, e_X8_convert_13, e_X8_convert_16, e_X8_convert_17, e_X8_convert_20, o_const, o_iload, o_aload, o_fload, o_dload, o_istore, o_astore, o_fstore, o_dstore, o_iinc, o_bin, o_div, o_un, o_i2l, o_i2f, o_i2d, o_f2d, o_fdiv, o_ddiv, o_lcmp, o_fcmp, o_dcmp, o_if, o_if2, o_goto, o_dup, o_dupx1, o_dup2, o_pop, o_getI, o_getR, o_putI, o_putR, o_iald, o_iast, o_bald, o_bast, o_zald, o_zast, o_aald, o_aast, o_jald, o_jast, o_dald, o_dast, o_alen, o_castA, o_new, o_newa, o_callv, o_callvN, o_calli, o_calls, o_objinit, o_iret, o_zret, o_fret, o_dret, o_aret, o_vret, o_throw, o_acopy, o_bcopy, o_clone, o_tsw, o_ldcS, o_kval, o_kcoder, o_klen, o_kald, o_tald, o_getSq, o_callk, o_callvH, gl, stl, stl2, pre2, va_rf, Value.category, catS, List.length_cons, List.length_nil, List.map_cons, List.map_nil, List.sum_cons, List.sum_nil, List.take_succ_cons, List.take_zero, List.drop_succ_cons, List.drop_zero, List.reverse_cons, List.reverse_nil, List.nil_append, List.cons_append, true_and, and_true, if_true, Nat.reduceAdd, Nat.reduceLT, Nat.reduceLeDiff, q1, q2]
    refine ⟨⟨x, _, rfl, rfl, q1, q2⟩, sp_beginChange (by omega) (by omega) hR ?_⟩
    intro S1 hR1 F1
    obtain ⟨st1, L1, hQ1⟩ := cr_q hR1
    obtain ⟨p1, p2, p3, hSt1, hV1⟩ := hQ1
    have hs1 := hSt1
    obtain ⟨_, _, _, _, _, y1, y2, -⟩ := hs1
    obtain ⟨k, k1, rfl, k3⟩ := rArg_k (hi := 9999) (by decide) ha
    simp only [behind, e_X8_convert_0, e_X8_convert_1, e_X8_convert_2, e_X8_convert_5, e_X8_convert_8, e_X8_convert_9, e_X8_convert_12, e_X8_convert_13, e_X8_convert_16, e_X8_convert_17, e_X8_convert_20, o_const, o_iload, o_aload, o_fload, o_dload, o_istore, o_astore, o_fstore, o_dstore, o_iinc, o_bin, o_div, o_un, o_i2l, o_i2f, o_i2d, o_f2d, o_fdiv, o_ddiv, o_lcmp, o_fcmp, o_dcmp, o_if, o_if2, o_goto, o_dup, o_dupx1, o_dup2, o_pop, o_getI, o_getR, o_putI, o_putR, o_iald, o_iast, o_bald, o_bast, o_zald, o_zast, o_aald, o_aast, o_jald, o_jast, o_dald, o_dast, o_alen, o_castA, o_new, o_newa, o_callv, o_callvN, o_calli, o_calls, o_objinit, o_iret, o_zret, o_fret, o_dret, o_aret, o_vret, o_throw, o_acopy, o_bcopy, o_clone, o_tsw, o_ldcS, o_kval, o_kcoder, o_klen, o_kald, o_tald, o_getSq, o_callk, o_callvH, gl, stl, stl2, pre2, va_rf, Value.category, catS, List.length_cons, List.length_nil, List.map_cons, List.map_nil, List.sum_cons, List.sum_nil, List.take_succ_cons, List.take_zero, List.drop_succ_cons, List.drop_zero, List.reverse_cons, List.reverse_nil, List.nil_append, List.cons_append, true_and, and_true, if_true, Nat.reduceAdd, Nat.reduceLT, Nat.reduceLeDiff, p1, p2, p3]
    refine ⟨⟨st1, _, rfl, rfl, y1, y2⟩, sp_cak (u := u + 2) (by omega) (by omega) hR1 p3 ?_⟩
    intro S2 D hR2 F2 _
    simp only [behind, e_X8_convert_0, e_X8_convert_1, e_X8_convert_2, e_X8_convert_5, e_X8_convert_8, e_X8_convert_9, e_X8_convert_12, e_X8_convert_13, e_X8_convert_16, e_X8_convert_17, e_X8_convert_20, o_const, o_iload, o_aload, o_fload, o_dload, o_istore, o_astore, o_fstore, o_dstore, o_iinc, o_bin, o_div, o_un, o_i2l, o_i2f, o_i2d, o_f2d, o_fdiv, o_ddiv, o_lcmp, o_fcmp, o_dcmp, o_if, o_if2, o_goto, o_dup, o_dupx1, o_dup2, o_pop, o_getI, o_getR, o_putI, o_putR, o_iald, o_iast, o_bald, o_bast, o_zald, o_zast, o_aald, o_aast, o_jald, o_jast, o_dald, o_dast, o_alen, o_castA, o_new, o_newa, o_callv, o_callvN, o_calli, o_calls, o_objinit, o_iret, o_zret, o_fret, o_dret, o_aret, o_vret, o_throw, o_acopy, o_bcopy, o_clone, o_tsw, o_ldcS, o_kval, o_kcoder, o_klen, o_kald, o_tald, o_getSq, o_callk, o_callvH, gl, stl, stl2, pre2, va_rf, Value.category, catS, List.length_cons, List.length_nil, List.map_cons, List.map_nil, List.sum_cons, List.sum_nil, List.take_succ_cons, List.take_zero, List.drop_succ_cons, List.drop_zero, List.reverse_cons, List.reverse_nil, List.nil_append, List.cons_append, true_and, and_true, if_true, Nat.reduceAdd, Nat.reduceLT, Nat.reduceLeDiff]
    exact h1 S2 D (by unfold rArg; rw [if_pos ha]) (by rw [k3]; exact hR2) ((F1.trans F2).mono (fun t a _ w => w.elim id id) (by omega) (by omega))
  · simp only [behind]
    exact h0 (by unfold rArg; rw [if_neg ha])
def avg (C : CSt) (i : Nat) (Ds : Nat → Nat → Int32) : Nat → CSt × Nat
  | 0 => (C, 0)
  | n + 1 => (cvK (avg C i Ds n).1 i (Ds n), (avg C i Ds n).2 + cvC (avg C i Ds n).1 (nB (sSet (avg C i Ds n).1) (nI i) (sNoi (avg C i Ds n).1) 0))
theorem avg_ext {C : CSt} {i : Nat} {Ds Es : Nat → Nat → Int32} : ∀ n, (∀ k, k < n → Ds k = Es k) → avg C i Ds n = avg C i Es n := by
  intro n
  induction n with
  | zero => intro _; rfl
  | succ n ih =>
    intro h
    simp only [avg]
    rw [ih (fun k hk => h k (by omega)), h n (by omega)]
theorem sp_average_lp (hm : u + 100 ≤ cCM ∧ v + 900000 ≤ cSM) (hM : M ≤ 9800) {S0 : M9} {i n : Nat} (hn16 : n ≤ 16) (hnan : ∀ Ds, vf_n32 (FP.fdiv (FP.i2f (nI (avg C i Ds n).2)) (FP.i2f (nI n))))
    (h1 : ∀ S' Ds, CR S' x (M + n) (u + 2 * n) v tl T eA hn H (avg C i Ds n).1 wn Wt s0 s1 0 → Fr S0 S' (fun t _ => ¬ nX t) (2 + 2 * n) (80000 + 80000 * n) → Q (.inl (some (.float (FP.fdiv (FP.i2f (nI (avg C i Ds n).2)) (FP.i2f (nI n)))))) S') :
    ∀ r m S' Ds, m + r = n → CR S' x (M + m) (u + 2 * m) v tl T eA hn H (avg C i Ds m).1 wn Wt s0 s1 0 → Fr S0 S' (fun t _ => ¬ nX t) (2 + 2 * m) (80000 + 80000 * m) →
      Run ks (WG ks (d + 7)) Q tb_X8_average 24 [some (.ref x), some (.int (nI i)), some (.int (nI n)), some (.int (nI (avg C i Ds m).2)), some (.int (nI m))] [] S' := by
  intro r
  induction r with
  | zero =>
    intro m S' Ds hmr hR F
    have e : m = n := by omega
    subst e
    rw [e_X8_average_24]
    simp only [e_X8_average_0, e_X8_average_1, e_X8_average_2, e_X8_average_5, e_X8_average_8, e_X8_average_9, e_X8_average_10, e_X8_average_12, e_X8_average_15, e_X8_average_16, e_X8_average_19, e_X8_average_20, e_X8_average_21, e_X8_average_22, e_X8_average_26, e_X8_average_27, e_X8_average_30, e_X8_average_31, e_X8_average_32, e_X8_average_35, e_X8_average_36, e_X8_average_39, e_X8_average_40, e_X8_average_41, e_X8_average_44, e_X8_average_47, e_X8_average_48, e_X8_average_49, e_X8_average_50, e_X8_average_51, e_X8_average_52, o_const, o_iload, o_aload, o_fload, o_dload, o_istore, o_astore, o_fstore, o_dstore, o_iinc, o_bin, o_div, o_un, o_i2l, o_i2f, o_i2d, o_f2d, o_fdiv, o_ddiv, o_lcmp, o_fcmp, o_dcmp, o_if, o_if2, o_goto, o_dup, o_dupx1, o_dup2, o_pop, o_getI, o_getR, o_putI, o_putR, o_iald, o_iast, o_bald, o_bast, o_zald, o_zast, o_aald, o_aast, o_jald, o_jast, o_dald, o_dast, o_alen, o_castA, o_new, o_newa, o_callv, o_callvN, o_calli, o_calls, o_objinit, o_iret, o_zret, o_fret, o_dret, o_aret, o_vret, o_throw, o_acopy, o_bcopy, o_clone, o_tsw, o_ldcS, o_kval, o_kcoder, o_klen, o_kald, o_tald, o_getSq, o_callk, o_callvH, gl, stl, stl2, pre2, va_rf, Value.category, catS, List.length_cons, List.length_nil, List.map_cons, List.map_nil, List.sum_cons, List.sum_nil, List.take_succ_cons, List.take_zero, List.drop_succ_cons, List.drop_zero, List.reverse_cons, List.reverse_nil, List.nil_append, List.cons_append, true_and, and_true, if_true, Nat.reduceAdd, Nat.reduceLT, Nat.reduceLeDiff]
    refine ⟨fun _ => ?_, fun c => absurd (nI_le (Nat.le_refl _) (by omega)) c⟩
    exact ⟨hnan Ds, h1 S' Ds hR F⟩
  | succ r ih =>
    intro m S' Ds hmr hR F
    obtain ⟨st1, L1, hQ1⟩ := cr_q hR
    obtain ⟨p1, p2, p3, hSt1, hV1⟩ := hQ1
    have hs1 := hSt1
    obtain ⟨_, _, _, _, _, y1, y2, -⟩ := hs1
    rw [e_X8_average_24]
    simp only [e_X8_average_0, e_X8_average_1, e_X8_average_2, e_X8_average_5, e_X8_average_8, e_X8_average_9, e_X8_average_10, e_X8_average_12, e_X8_average_15, e_X8_average_16, e_X8_average_19, e_X8_average_20, e_X8_average_21, e_X8_average_22, e_X8_average_26, e_X8_average_27, e_X8_average_30, e_X8_average_31, e_X8_average_32, e_X8_average_35, e_X8_average_36, e_X8_average_39, e_X8_average_40, e_X8_average_41, e_X8_average_44, e_X8_average_47, e_X8_average_48, e_X8_average_49, e_X8_average_50, e_X8_average_51, e_X8_average_52, o_const, o_iload, o_aload, o_fload, o_dload, o_istore, o_astore, o_fstore, o_dstore, o_iinc, o_bin, o_div, o_un, o_i2l, o_i2f, o_i2d, o_f2d, o_fdiv, o_ddiv, o_lcmp, o_fcmp, o_dcmp, o_if, o_if2, o_goto, o_dup, o_dupx1, o_dup2, o_pop, o_getI, o_getR, o_putI, o_putR, o_iald, o_iast, o_bald, o_bast, o_zald, o_zast, o_aald, o_aast, o_jald, o_jast, o_dald, o_dast, o_alen, o_castA, o_new, o_newa, o_callv, o_callvN, o_calli, o_calls, o_objinit, o_iret, o_zret, o_fret, o_dret, o_aret, o_vret, o_throw, o_acopy, o_bcopy, o_clone, o_tsw, o_ldcS, o_kval, o_kcoder, o_klen, o_kald, o_tald, o_getSq, o_callk, o_callvH, gl, stl, stl2, pre2, va_rf, Value.category, catS, List.length_cons, List.length_nil, List.map_cons, List.map_nil, List.sum_cons, List.sum_nil, List.take_succ_cons, List.take_zero, List.drop_succ_cons, List.drop_zero, List.reverse_cons, List.reverse_nil, List.nil_append, List.cons_append, true_and, and_true, if_true, Nat.reduceAdd, Nat.reduceLT, Nat.reduceLeDiff, p1, p2, p3]
    refine ⟨fun c => absurd ((nI_leI (by omega) (by omega)).mp c) (by omega), fun _ => ⟨⟨st1, _, rfl, rfl, y1, y2⟩, sp_cak (u := u + 2 * m) (by omega) (by omega) hR p3 ?_⟩⟩
    intro S2 D hR2 F2 _
    simp only [behind, e_X8_average_0, e_X8_average_1, e_X8_average_2, e_X8_average_5, e_X8_average_8, e_X8_average_9, e_X8_average_10, e_X8_average_12, e_X8_average_15, e_X8_average_16, e_X8_average_19, e_X8_average_20, e_X8_average_21, e_X8_average_22, e_X8_average_26, e_X8_average_27, e_X8_average_30, e_X8_average_31, e_X8_average_32, e_X8_average_35, e_X8_average_36, e_X8_average_39, e_X8_average_40, e_X8_average_41, e_X8_average_44, e_X8_average_47, e_X8_average_48, e_X8_average_49, e_X8_average_50, e_X8_average_51, e_X8_average_52, o_const, o_iload, o_aload, o_fload, o_dload, o_istore, o_astore, o_fstore, o_dstore, o_iinc, o_bin, o_div, o_un, o_i2l, o_i2f, o_i2d, o_f2d, o_fdiv, o_ddiv, o_lcmp, o_fcmp, o_dcmp, o_if, o_if2, o_goto, o_dup, o_dupx1, o_dup2, o_pop, o_getI, o_getR, o_putI, o_putR, o_iald, o_iast, o_bald, o_bast, o_zald, o_zast, o_aald, o_aast, o_jald, o_jast, o_dald, o_dast, o_alen, o_castA, o_new, o_newa, o_callv, o_callvN, o_calli, o_calls, o_objinit, o_iret, o_zret, o_fret, o_dret, o_aret, o_vret, o_throw, o_acopy, o_bcopy, o_clone, o_tsw, o_ldcS, o_kval, o_kcoder, o_klen, o_kald, o_tald, o_getSq, o_callk, o_callvH, gl, stl, stl2, pre2, va_rf, Value.category, catS, List.length_cons, List.length_nil, List.map_cons, List.map_nil, List.sum_cons, List.sum_nil, List.take_succ_cons, List.take_zero, List.drop_succ_cons, List.drop_zero, List.reverse_cons, List.reverse_nil, List.nil_append, List.cons_append, true_and, and_true, if_true, Nat.reduceAdd, Nat.reduceLT, Nat.reduceLeDiff, nI_add, nI_1]
    have ee : avg C i (upN Ds m D) m = avg C i Ds m := avg_ext m (fun k hk => by simp only [upN, if_neg (show ¬ k = m by omega)])
    have hih := ih (m + 1) S2 (upN Ds m D) (by omega)
    simp only [avg, ee] at hih
    rw [show upN Ds m D m = D by simp [upN]] at hih
    exact hih (by rw [show u + 2 * (m + 1) = u + 2 * m + 2 by omega, show M + (m + 1) = M + m + 1 by omega]; exact hR2) ((F.trans F2).mono (fun t a _ w => w.elim id id) (by omega) (by omega))
end SPS
