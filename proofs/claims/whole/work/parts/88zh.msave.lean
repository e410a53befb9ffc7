/-! THE MODEL: save, restore -/
section MRL
variable {S S' : M9} {m M tl hn wn : Nat} {ad : Nat → Nat} {T Wt : Nat → Int32} {eA : Int32} {H : Nat → CSt} {C C' : CSt} {s0 s1 : CSl} {W : Nat → Nat → Prop} {c z : Nat}
/-- the slots are others -/
theorem MoR.sl {s0' s1' : CSl} (h : MoR S m ad tl T eA hn H C wn Wt s0 s1) (hM' : MS S' m ad) (hF : Fr S S' W c z) (hs : gI S' 11 m = gI S 11 m) (hW : ∀ t a, (t = 40 ∨ t = 41 ∨ t = 44 ∨ t = 51) → ¬ W t a) (h0 : MSl S' ad 0 s0') (h1' : MSl S' ad 1 s1') : MoR S' m ad tl T eA hn H C wn Wt s0' s1' := by
  obtain ⟨h1, h2, ⟨a1, a2, a3⟩, ⟨b1, b2, b3, b4, b5⟩, ⟨c1, c2, c3⟩, -⟩ := h
  obtain ⟨-, ⟨-, x0, -⟩, ⟨-, x1, -⟩, -, ⟨-, x3, -⟩, ⟨-, x4, -⟩, ⟨-, x7, -⟩, -, -, -, -, -, -, ⟨-, x27, -⟩⟩ := h1
  have e0 := (hF.2.1 40 (ad 0) x0 (hW _ _ (by decide))).1
  have e1 := (hF.2.1 41 (ad 1) x1 (hW _ _ (by decide))).1
  have e7 := (hF.2.1 44 (ad 7) x7 (hW _ _ (by decide))).1
  have e27 := (hF.2.1 51 (ad 27) x27 (hW _ _ (by decide))).1
  exact ⟨hM', by rw [e0]; exact h2, ⟨a1, by rw [hs]; exact a2, by rw [e1]; exact a3⟩, ⟨b1, by rw [hs]; exact b2, by rw [e7]; exact b3, by rw [hs]; exact b4, by rw [hs]; exact b5⟩, ⟨c1, by rw [hs]; exact c2, by rw [e27]; exact c3⟩, h0, h1'⟩
end MRL
section SPS
variable {ks : Nat → Nat} {d : Nat} {Q : QP} {S : M9} {m M tl hn wn : Nat} {ad : Nat → Nat} {T Wt : Nat → Int32} {eA : Int32} {H : Nat → CSt} {C : CSt} {s0 s1 : CSl}
theorem sp_mSave_lp (hM : MS S m ad) {q : Nat} (hq : q ≤ 1)
    (h : ∀ S', MS S' m ad → (∀ j, ¬ (12 * q + 2 ≤ j ∧ j < 12 * q + 12) → gI S' 43 (ad 3) j = gI S 43 (ad 3) j) → (∀ j, j < 10 → gI S' 43 (ad 3) (12 * q + 2 + j) = gI S 40 (ad 0) (41 + j)) → Fr S S' (fun t a => t = 43 ∧ a = ad 3) 0 0 → Run ks (WG ks d) Q tb_X9_save 102 [some (.ref m), some (.int (nI q)), some (.int (nI 10))] [] S') :
    ∀ r k S', k + r = 10 → MS S' m ad → (∀ j, ¬ (12 * q + 2 ≤ j ∧ j < 12 * q + 12) → gI S' 43 (ad 3) j = gI S 43 (ad 3) j) → (∀ j, j < k → gI S' 43 (ad 3) (12 * q + 2 + j) = gI S 40 (ad 0) (41 + j)) → Fr S S' (fun t a => t = 43 ∧ a = ad 3) 0 0 →
      Run ks (WG ks d) Q tb_X9_save 68 [some (.ref m), some (.int (nI q)), some (.int (nI k))] [] S' := by
  have h0a := hM.2.1.2.1
  intro r
  induction r with
  | zero =>
    intro k S' hk hM' h1 h2 hF
    have e : k = 10 := by omega
    subst e
    rw [e_X9_save_68]
    simp only [e_X9_save_0, e_X9_save_1, e_X9_save_2, e_X9_save_3, e_X9_save_4, e_X9_save_7, e_X9_save_10, e_X9_save_11, e_X9_save_14, e_X9_save_15, e_X9_save_18, e_X9_save_19, e_X9_save_22, e_X9_save_25, e_X9_save_26, e_X9_save_27, e_X9_save_28, e_X9_save_31, e_X9_save_32, e_X9_save_33, e_X9_save_34, e_X9_save_35, e_X9_save_38, e_X9_save_40, e_X9_save_41, e_X9_save_42, e_X9_save_43, e_X9_save_46, e_X9_save_47, e_X9_save_48, e_X9_save_49, e_X9_save_50, e_X9_save_53, e_X9_save_55, e_X9_save_56, e_X9_save_57, e_X9_save_58, e_X9_save_59, e_X9_save_60, e_X9_save_63, e_X9_save_64, e_X9_save_65, e_X9_save_66, e_X9_save_67, e_X9_save_69, e_X9_save_71, e_X9_save_74, e_X9_save_75, e_X9_save_78, e_X9_save_80, e_X9_save_81, e_X9_save_82, e_X9_save_83, e_X9_save_84, e_X9_save_85, e_X9_save_86, e_X9_save_87, e_X9_save_90, e_X9_save_92, e_X9_save_93, e_X9_save_94, e_X9_save_95, e_X9_save_96, e_X9_save_99, e_X9_save_103, e_X9_save_106, o_const, o_iload, o_aload, o_fload, o_dload, o_istore, o_astore, o_fstore, o_dstore, o_iinc, o_bin, o_div, o_un, o_i2l, o_i2f, o_i2d, o_f2d, o_fdiv, o_ddiv, o_lcmp, o_fcmp, o_dcmp, o_if, o_if2, o_goto, o_dup, o_dupx1, o_dup2, o_pop, o_getI, o_getR, o_putI, o_putR, o_iald, o_iast, o_bald, o_bast, o_zald, o_zast, o_aald, o_aast, o_jald, o_jast, o_dald, o_dast, o_alen, o_castA, o_new, o_newa, o_callv, o_callvN, o_calli, o_calls, o_objinit, o_iret, o_zret, o_fret, o_dret, o_aret, o_vret, o_throw, o_acopy, o_bcopy, o_clone, o_tsw, o_ldcS, o_kval, o_kcoder, o_klen, o_kald, o_tald, o_getSq, o_callk, o_callvH, gl, stl, stl2, pre2, va_rf, Value.category, catS, List.length_cons, List.length_nil, List.map_cons, List.map_nil, List.sum_cons, List.sum_nil, List.take_succ_cons, List.take_zero, List.drop_succ_cons, List.drop_zero, List.reverse_cons, List.reverse_nil, List.nil_append, List.cons_append, true_and, and_true, if_true, Nat.reduceAdd, Nat.reduceLT, Nat.reduceLeDiff]
    exact ⟨fun _ => h S' hM' h1 h2 hF, fun c => absurd (by decide) c⟩
  | succ r ih =>
    intro k S' hk hM' h1 h2 hF
    have hMc := hM'
    obtain ⟨⟨m1, m2⟩, ⟨a1, a2, a3, a4⟩, -, -, ⟨b1, b2, b3, b4⟩, -⟩ := hMc
    have e0 := (hF.2.1 40 (ad 0) h0a (fun w => by omega)).1
    have e2 : (12 : Int32) * nI q + 2 + nI k = nI (12 * q + 2 + k) := by rw [show (12 : Int32) = nI 12 from rfl, pk_mul, show (2 : Int32) = nI 2 from rfl, nI_add, nI_add]
    have e41 : (41 : Int32) + nI k = nI (41 + k) := by rw [show (41 : Int32) = nI 41 from rfl, nI_add]
    have q2 : (nI (12 * q + 2 + k)).toNatClampNeg = 12 * q + 2 + k := nI_clamp (by omega)
    have q41 : (nI (41 + k)).toNatClampNeg = 41 + k := nI_clamp (by omega)
    have v2 : vp_in (nI (12 * q + 2 + k)) 24 := vp_in_nI (by omega) (by decide)
    have v41 : vp_in (nI (41 + k)) 21153 := vp_in_nI (by omega) (by decide)
    have F2 := Fr.sI S' 43 (ad 3) (12 * q + 2 + k) (gI S 40 (ad 0) (41 + k))
    rw [e_X9_save_68]
    simp only [e_X9_save_0, e_X9_save_1, e_X9_save_2, e_X9_save_3, e_X9_save_4, e_X9_save_7, e_X9_save_10, e_X9_save_11, e_X9_save_14, e_X9_save_15, e_X9_save_18, e_X9_save_19, e_X9_save_22, e_X9_save_25, e_X9_save_26, e_X9_save_27, e_X9_save_28, e_X9_save_31, e_X9_save_32, e_X9_save_33, e_X9_save_34, e_X9_save_35, e_X9_save_38, e_X9_save_40, e_X9_save_41, e_X9_save_42, e_X9_save_43, e_X9_save_46, e_X9_save_47, e_X9_save_48, e_X9_save_49, e_X9_save_50, e_X9_save_53, e_X9_save_55, e_X9_save_56, e_X9_save_57, e_X9_save_58, e_X9_save_59, e_X9_save_60, e_X9_save_63, e_X9_save_64, e_X9_save_65, e_X9_save_66, e_X9_save_67, e_X9_save_69, e_X9_save_71, e_X9_save_74, e_X9_save_75, e_X9_save_78, e_X9_save_80, e_X9_save_81, e_X9_save_82, e_X9_save_83, e_X9_save_84, e_X9_save_85, e_X9_save_86, e_X9_save_87, e_X9_save_90, e_X9_save_92, e_X9_save_93, e_X9_save_94, e_X9_save_95, e_X9_save_96, e_X9_save_99, e_X9_save_103, e_X9_save_106, o_const, o_iload, o_aload, o_fload, o_dload, o_istore, o_astore, o_fstore, o_dstore, o_iinc, o_bin, o_div, o_un, o_i2l, o_i2f, o_i2d, o_f2d, o_fdiv, o_ddiv, o_lcmp, o_fcmp, o_dcmp, o_if, o_if2, o_goto, o_dup, o_dupx1, o_dup2, o_pop, o_getI, o_getR, o_putI, o_putR, o_iald, o_iast, o_bald, o_bast, o_zald, o_zast, o_aald, o_aast, o_jald, o_jast, o_dald, o_dast, o_alen, o_castA, o_new, o_newa, o_callv, o_callvN, o_calli, o_calls, o_objinit, o_iret, o_zret, o_fret, o_dret, o_aret, o_vret, o_throw, o_acopy, o_bcopy, o_clone, o_tsw, o_ldcS, o_kval, o_kcoder, o_klen, o_kald, o_tald, o_getSq, o_callk, o_callvH, gl, stl, stl2, pre2, va_rf, Value.category, catS, List.length_cons, List.length_nil, List.map_cons, List.map_nil, List.sum_cons, List.sum_nil, List.take_succ_cons, List.take_zero, List.drop_succ_cons, List.drop_zero, List.reverse_cons, List.reverse_nil, List.nil_append, List.cons_append, true_and, and_true, if_true, Nat.reduceAdd, Nat.reduceLT, Nat.reduceLeDiff, m1, m2, a1, a2, a3, a4, b1, b2, b3, b4, e0, e2, e41, q2, q41, v2, v41, nI_1]
    refine ⟨fun c => absurd ((nI_leI (a := 10) (by decide) (by omega)).mp c) (by omega), fun _ => ih (k + 1) _ (by omega) (hM'.fr F2 (by rw [gR_sI])) (fun j hj => ?_) (fun j hj => ?_) ((hF.trans F2).mono (fun _ _ _ w => w.elim id id) (by decide) (by decide))⟩
    · rw [gI_sIk, if_neg (fun w => by omega)]; exact h1 j hj
    · rw [gI_sIk]
      by_cases e : j = k
      · rw [if_pos ⟨rfl, rfl, by omega⟩, e]
      · rw [if_neg (fun w => by omega)]; exact h2 j (by omega)
theorem sp_mSave (hM : MoR S m ad tl T eA hn H C wn Wt s0 s1) (hV : VC M C) {c : Int32}
    (h0 : ∀ S', c = 0 → MoR S' m ad tl T eA hn H C wn Wt (slW C) s1 → gI S' 11 m 6 = 0 → Fr S S' (fun t _ => nM t) 0 0 → Q (.inl (some (.int (nI (cvC C (-1)))))) S')
    (h1 : ∀ S', c = 1 → MoR S' m ad tl T eA hn H C wn Wt s0 (slW C) → gI S' 11 m 6 = 0 → Fr S S' (fun t _ => nM t) 0 0 → Q (.inl (some (.int (nI (cvC C (-1)))))) S')
    (h2 : ∀ S' v, ¬ inI c 2 → MoR S' m ad tl T eA hn H C wn Wt s0 s1 → gI S' 11 m 6 = 1 → Fr S S' (fun t _ => nM t) 0 0 → Q (.inl (some (.int v))) S') : WG ks (d + 2) n_X9_save [.ref m, .int c] S Q := by
  refine ⟨by simp [cat1, Value.category], by show (2 : Nat) ≤ 3; decide, ?_⟩
  show Run ks (WG ks (d + 1)) Q tb_X9_save 0 [some (.ref m), some (.int c), none] [] S
  have hm := hM.1.1
  have hw10 := hV.1.2.1
  simp only [e_X9_save_0, e_X9_save_1, e_X9_save_2, e_X9_save_3, e_X9_save_4, e_X9_save_7, e_X9_save_10, e_X9_save_11, e_X9_save_14, e_X9_save_15, e_X9_save_18, e_X9_save_19, e_X9_save_22, e_X9_save_25, e_X9_save_26, e_X9_save_27, e_X9_save_28, e_X9_save_31, e_X9_save_32, e_X9_save_33, e_X9_save_34, e_X9_save_35, e_X9_save_38, e_X9_save_40, e_X9_save_41, e_X9_save_42, e_X9_save_43, e_X9_save_46, e_X9_save_47, e_X9_save_48, e_X9_save_49, e_X9_save_50, e_X9_save_53, e_X9_save_55, e_X9_save_56, e_X9_save_57, e_X9_save_58, e_X9_save_59, e_X9_save_60, e_X9_save_63, e_X9_save_64, e_X9_save_65, e_X9_save_66, e_X9_save_67, e_X9_save_69, e_X9_save_71, e_X9_save_74, e_X9_save_75, e_X9_save_78, e_X9_save_80, e_X9_save_81, e_X9_save_82, e_X9_save_83, e_X9_save_84, e_X9_save_85, e_X9_save_86, e_X9_save_87, e_X9_save_90, e_X9_save_92, e_X9_save_93, e_X9_save_94, e_X9_save_95, e_X9_save_96, e_X9_save_99, e_X9_save_103, e_X9_save_106, o_const, o_iload, o_aload, o_fload, o_dload, o_istore, o_astore, o_fstore, o_dstore, o_iinc, o_bin, o_div, o_un, o_i2l, o_i2f, o_i2d, o_f2d, o_fdiv, o_ddiv, o_lcmp, o_fcmp, o_dcmp, o_if, o_if2, o_goto, o_dup, o_dupx1, o_dup2, o_pop, o_getI, o_getR, o_putI, o_putR, o_iald, o_iast, o_bald, o_bast, o_zald, o_zast, o_aald, o_aast, o_jald, o_jast, o_dald, o_dast, o_alen, o_castA, o_new, o_newa, o_callv, o_callvN, o_calli, o_calls, o_objinit, o_iret, o_zret, o_fret, o_dret, o_aret, o_vret, o_throw, o_acopy, o_bcopy, o_clone, o_tsw, o_ldcS, o_kval, o_kcoder, o_klen, o_kald, o_tald, o_getSq, o_callk, o_callvH, gl, stl, stl2, pre2, va_rf, Value.category, catS, List.length_cons, List.length_nil, List.map_cons, List.map_nil, List.sum_cons, List.sum_nil, List.take_succ_cons, List.take_zero, List.drop_succ_cons, List.drop_zero, List.reverse_cons, List.reverse_nil, List.nil_append, List.cons_append, true_and, and_true, if_true, Nat.reduceAdd, Nat.reduceLT, Nat.reduceLeDiff]
  refine sp_mIn (fun c1 => ?_) (fun c1 => ?_)
  · have hc := in9 (n := 1) (by decide) rfl c1
    obtain ⟨q, hq, rfl, -⟩ := inI_k (by decide) hc
    have hM1 := hM.f (j := 6) (v := 0) (by decide)
    have hMc := hM.1
    obtain ⟨-, ⟨a1, a2, a3, a4⟩, -, -, ⟨b1, b2, b3, b4⟩, ⟨z1, z2, z3, z4⟩, -⟩ := hMc
    have e0 : (12 : Int32) * nI q = nI (12 * q) := by rw [show (12 : Int32) = nI 12 from rfl, pk_mul]
    have k1 : Int32.toNatClampNeg 1 = 1 := by decide
    have k2 : Int32.toNatClampNeg 2 = 2 := by decide
    have w1 : vp_in 1 21153 := vp_in_nI (n := 1) (by decide) (by decide)
    have w2 : vp_in 2 21153 := vp_in_nI (n := 2) (by decide) (by decide)
    have q0 : (nI q).toNatClampNeg = q := nI_clamp (by omega)
    have q1 : (nI (12 * q)).toNatClampNeg = 12 * q := nI_clamp (by omega)
    have q2 : (nI (12 * q + 1)).toNatClampNeg = 12 * q + 1 := nI_clamp (by omega)
    have v0 : vp_in (nI q) 2 := vp_in_nI (by omega) (by decide)
    have v1 : vp_in (nI (12 * q)) 24 := vp_in_nI (by omega) (by decide)
    have v2 : vp_in (nI (12 * q + 1)) 24 := vp_in_nI (by omega) (by decide)
    have r1 := hM.2.1.1.2.1
    have r2 := hM.2.1.1.2.2.1
    have nb : vp_nar .boolean 1 = 1 := by decide
    simp only [behind, e_X9_save_0, e_X9_save_1, e_X9_save_2, e_X9_save_3, e_X9_save_4, e_X9_save_7, e_X9_save_10, e_X9_save_11, e_X9_save_14, e_X9_save_15, e_X9_save_18, e_X9_save_19, e_X9_save_22, e_X9_save_25, e_X9_save_26, e_X9_save_27, e_X9_save_28, e_X9_save_31, e_X9_save_32, e_X9_save_33, e_X9_save_34, e_X9_save_35, e_X9_save_38, e_X9_save_40, e_X9_save_41, e_X9_save_42, e_X9_save_43, e_X9_save_46, e_X9_save_47, e_X9_save_48, e_X9_save_49, e_X9_save_50, e_X9_save_53, e_X9_save_55, e_X9_save_56, e_X9_save_57, e_X9_save_58, e_X9_save_59, e_X9_save_60, e_X9_save_63, e_X9_save_64, e_X9_save_65, e_X9_save_66, e_X9_save_67, e_X9_save_69, e_X9_save_71, e_X9_save_74, e_X9_save_75, e_X9_save_78, e_X9_save_80, e_X9_save_81, e_X9_save_82, e_X9_save_83, e_X9_save_84, e_X9_save_85, e_X9_save_86, e_X9_save_87, e_X9_save_90, e_X9_save_92, e_X9_save_93, e_X9_save_94, e_X9_save_95, e_X9_save_96, e_X9_save_99, e_X9_save_103, e_X9_save_106, o_const, o_iload, o_aload, o_fload, o_dload, o_istore, o_astore, o_fstore, o_dstore, o_iinc, o_bin, o_div, o_un, o_i2l, o_i2f, o_i2d, o_f2d, o_fdiv, o_ddiv, o_lcmp, o_fcmp, o_dcmp, o_if, o_if2, o_goto, o_dup, o_dupx1, o_dup2, o_pop, o_getI, o_getR, o_putI, o_putR, o_iald, o_iast, o_bald, o_bast, o_zald, o_zast, o_aald, o_aast, o_jald, o_jast, o_dald, o_dast, o_alen, o_castA, o_new, o_newa, o_callv, o_callvN, o_calli, o_calls, o_objinit, o_iret, o_zret, o_fret, o_dret, o_aret, o_vret, o_throw, o_acopy, o_bcopy, o_clone, o_tsw, o_ldcS, o_kval, o_kcoder, o_klen, o_kald, o_tald, o_getSq, o_callk, o_callvH, gl, stl, stl2, pre2, va_rf, Value.category, catS, List.length_cons, List.length_nil, List.map_cons, List.map_nil, List.sum_cons, List.sum_nil, List.take_succ_cons, List.take_zero, List.drop_succ_cons, List.drop_zero, List.reverse_cons, List.reverse_nil, List.nil_append, List.cons_append, true_and, and_true, if_true, Nat.reduceAdd, Nat.reduceLT, Nat.reduceLeDiff, hm, gL_sW, gL_sI, gL_sR, gL_sC, gL_nW, gK_sW, gK_sI, gK_sR, gK_sC, gK_nW, gN_sW, gN_sI, gN_sR, gN_sC, gN_nW, gC_sW, gC_sI, gC_sR, gC_sC, gC_nW, gZ_sW, gZ_sI, gZ_sR, gZ_sC, gZ_nW, narI, gR_sI, gI_sIk, Nat.reduceEqDiff, false_and, and_false, if_false, and_self, a1, a2, a3, a4, b1, b2, b3, b4, z1, z2, z3, z4, e0, k1, k2, w1, w2, q0, q1, q2, v0, v1, v2, r1, r2, nI_1, nb]
    refine ⟨fun z => absurd z (by decide), fun _ => ⟨fun _ => ?_, fun z => absurd (by decide) z⟩⟩
    have F0 := Fr.sI S 11 m 6 0
    have F1 := Fr.sI (sI S 11 m 6 0) 16 (ad 4) q 1
    have F2 := Fr.sI (sI (sI S 11 m 6 0) 16 (ad 4) q 1) 43 (ad 3) (12 * q) (nI (aWm (sSet C)))
    have F3 := Fr.sI (sI (sI (sI S 11 m 6 0) 16 (ad 4) q 1) 43 (ad 3) (12 * q) (nI (aWm (sSet C)))) 43 (ad 3) (12 * q + 1) (nI (sNoi C))
    have hM3 := ((hM1.1.fr F1 (by rw [gR_sI])).fr F2 (by rw [gR_sI])).fr F3 (by rw [gR_sI])
    have g16 : ∀ j, gI (sI (sI (sI (sI S 11 m 6 0) 16 (ad 4) q 1) 43 (ad 3) (12 * q) (nI (aWm (sSet C)))) 43 (ad 3) (12 * q + 1) (nI (sNoi C))) 16 (ad 4) j = if j = q then 1 else gI S 16 (ad 4) j := fun j => by
      rw [gI_sIk, if_neg (fun w => by omega), gI_sIk, if_neg (fun w => by omega), gI_sIk]
      by_cases e : j = q
      · rw [if_pos ⟨rfl, rfl, e⟩, if_pos e]
      · rw [if_neg (fun w => e w.2.2), if_neg e, gI_sIk, if_neg (fun w => by omega)]
    have g43 : ∀ j, gI (sI (sI (sI (sI S 11 m 6 0) 16 (ad 4) q 1) 43 (ad 3) (12 * q) (nI (aWm (sSet C)))) 43 (ad 3) (12 * q + 1) (nI (sNoi C))) 43 (ad 3) j = if j = 12 * q + 1 then nI (sNoi C) else if j = 12 * q then nI (aWm (sSet C)) else gI S 43 (ad 3) j := fun j => by
      rw [gI_sIk]
      by_cases e : j = 12 * q + 1
      · rw [if_pos ⟨rfl, rfl, e⟩, if_pos e]
      · rw [if_neg (fun w => e w.2.2), if_neg e, gI_sIk]
        by_cases e2 : j = 12 * q
        · rw [if_pos ⟨rfl, rfl, e2⟩, if_pos e2]
        · rw [if_neg (fun w => e2 w.2.2), if_neg e2, gI_sIk, if_neg (fun w => by omega), gI_sIk, if_neg (fun w => by omega)]
    have g40 : gI (sI (sI (sI (sI S 11 m 6 0) 16 (ad 4) q 1) 43 (ad 3) (12 * q) (nI (aWm (sSet C)))) 43 (ad 3) (12 * q + 1) (nI (sNoi C))) 40 (ad 0) = gI S 40 (ad 0) := ((F0.trans (F1.trans (F2.trans F3))).2.1 40 (ad 0) a2 (fun w => by omega)).1
    have g11 : gI (sI (sI (sI (sI S 11 m 6 0) 16 (ad 4) q 1) 43 (ad 3) (12 * q) (nI (aWm (sSet C)))) 43 (ad 3) (12 * q + 1) (nI (sNoi C))) 11 m = gI (sI S 11 m 6 0) 11 m := ((F1.trans (F2.trans F3)).2.1 11 m hM1.1.1.1 (fun w => by omega)).1
    have F13 := F1.trans (F2.trans F3)
    generalize hS3 : sI (sI (sI (sI S 11 m 6 0) 16 (ad 4) q 1) 43 (ad 3) (12 * q) (nI (aWm (sSet C)))) 43 (ad 3) (12 * q + 1) (nI (sNoi C)) = S3 at *
    refine sp_mSave_lp (S := S3) hM3 (by omega) ?_ 10 0 S3 (by decide) hM3 (fun _ _ => rfl) (fun j hj => absurd hj (Nat.not_lt_zero j)) ((Fr.rf _).mono (fun _ _ _ w => w.elim) (by decide) (by decide))
    intro S4 hM4 u1 u2 F4
    have FF := F13.trans F4
    have e11 := (F4.2.1 11 m hM3.1.1 (fun w => by omega)).1
    have e16 := (F4.2.1 16 (ad 4) hM3.2.2.2.2.2.1.2.1 (fun w => by omega)).1
    have e40 := (F4.2.1 40 (ad 0) hM3.2.1.2.1 (fun w => by omega)).1
    have hsl : MSl S4 ad q (slW C) := by
      refine ⟨hw10.2, ?_, fun _ => ⟨?_, ?_, fun k hk => ?_⟩⟩
      · rw [e16, g16, if_pos rfl]
        exact (if_neg (show ¬ aWm (sSet C) = 0 by omega)).symm
      · rw [u1 _ (by omega), g43, if_neg (by omega), if_pos rfl]; rfl
      · rw [u1 _ (by omega), g43, if_pos rfl]; rfl
      · have hk2 : k < aWm (sSet C) := hk
        rw [u2 k (by omega), g40]
        have := (hM.2.1.2.2.1 k hk2).2.2.2
        rw [Nat.zero_add] at this
        exact this
    have hot : ∀ q' s, ¬ q' = q → q' ≤ 1 → MSl S ad q' s → MSl S4 ad q' s := by
      intro q' s hne hq' ⟨d1, d2, d3⟩
      refine ⟨d1, ?_, fun hz => ?_⟩
      · rw [e16, g16, if_neg hne]; exact d2
      · obtain ⟨y1, y2, y3⟩ := d3 hz
        refine ⟨?_, ?_, fun k hk => ?_⟩
        · rw [u1 _ (by omega), g43, if_neg (by omega), if_neg (by omega)]; exact y1
        · rw [u1 _ (by omega), g43, if_neg (by omega), if_neg (by omega)]; exact y2
        · rw [u1 _ (by omega), g43, if_neg (by omega), if_neg (by omega)]; exact y3 k hk
    have hs0 := hM.2.2.2.2.2.1
    have hs1 := hM.2.2.2.2.2.2
    have hm4 := hM4.1
    have hR4 : RowR (gI S4 40 (ad 0)) 0 C := by rw [e40, g40]; exact hM.2.1
    have g6 : gI S4 11 m 6 = 0 := by rw [e11, g11, gI_sIk, if_pos ⟨rfl, rfl, rfl⟩]
    have FM := (nM_fr S (m := m) (j := 6) (v := 0)).nM2 (FF.toM (fun t a w => by unfold nM; omega))
    rw [e_X9_save_102]
    simp only [e_X9_save_0, e_X9_save_1, e_X9_save_2, e_X9_save_3, e_X9_save_4, e_X9_save_7, e_X9_save_10, e_X9_save_11, e_X9_save_14, e_X9_save_15, e_X9_save_18, e_X9_save_19, e_X9_save_22, e_X9_save_25, e_X9_save_26, e_X9_save_27, e_X9_save_28, e_X9_save_31, e_X9_save_32, e_X9_save_33, e_X9_save_34, e_X9_save_35, e_X9_save_38, e_X9_save_40, e_X9_save_41, e_X9_save_42, e_X9_save_43, e_X9_save_46, e_X9_save_47, e_X9_save_48, e_X9_save_49, e_X9_save_50, e_X9_save_53, e_X9_save_55, e_X9_save_56, e_X9_save_57, e_X9_save_58, e_X9_save_59, e_X9_save_60, e_X9_save_63, e_X9_save_64, e_X9_save_65, e_X9_save_66, e_X9_save_67, e_X9_save_69, e_X9_save_71, e_X9_save_74, e_X9_save_75, e_X9_save_78, e_X9_save_80, e_X9_save_81, e_X9_save_82, e_X9_save_83, e_X9_save_84, e_X9_save_85, e_X9_save_86, e_X9_save_87, e_X9_save_90, e_X9_save_92, e_X9_save_93, e_X9_save_94, e_X9_save_95, e_X9_save_96, e_X9_save_99, e_X9_save_103, e_X9_save_106, o_const, o_iload, o_aload, o_fload, o_dload, o_istore, o_astore, o_fstore, o_dstore, o_iinc, o_bin, o_div, o_un, o_i2l, o_i2f, o_i2d, o_f2d, o_fdiv, o_ddiv, o_lcmp, o_fcmp, o_dcmp, o_if, o_if2, o_goto, o_dup, o_dupx1, o_dup2, o_pop, o_getI, o_getR, o_putI, o_putR, o_iald, o_iast, o_bald, o_bast, o_zald, o_zast, o_aald, o_aast, o_jald, o_jast, o_dald, o_dast, o_alen, o_castA, o_new, o_newa, o_callv, o_callvN, o_calli, o_calls, o_objinit, o_iret, o_zret, o_fret, o_dret, o_aret, o_vret, o_throw, o_acopy, o_bcopy, o_clone, o_tsw, o_ldcS, o_kval, o_kcoder, o_klen, o_kald, o_tald, o_getSq, o_callk, o_callvH, gl, stl, stl2, pre2, va_rf, Value.category, catS, List.length_cons, List.length_nil, List.map_cons, List.map_nil, List.sum_cons, List.sum_nil, List.take_succ_cons, List.take_zero, List.drop_succ_cons, List.drop_zero, List.reverse_cons, List.reverse_nil, List.nil_append, List.cons_append, true_and, and_true, if_true, Nat.reduceAdd, Nat.reduceLT, Nat.reduceLeDiff, hm4]
    refine ⟨⟨m, _, rfl, rfl, hm4⟩, sp_mTableSum hM4 hR4 hV.1 ?_⟩
    simp only [behind, e_X9_save_0, e_X9_save_1, e_X9_save_2, e_X9_save_3, e_X9_save_4, e_X9_save_7, e_X9_save_10, e_X9_save_11, e_X9_save_14, e_X9_save_15, e_X9_save_18, e_X9_save_19, e_X9_save_22, e_X9_save_25, e_X9_save_26, e_X9_save_27, e_X9_save_28, e_X9_save_31, e_X9_save_32, e_X9_save_33, e_X9_save_34, e_X9_save_35, e_X9_save_38, e_X9_save_40, e_X9_save_41, e_X9_save_42, e_X9_save_43, e_X9_save_46, e_X9_save_47, e_X9_save_48, e_X9_save_49, e_X9_save_50, e_X9_save_53, e_X9_save_55, e_X9_save_56, e_X9_save_57, e_X9_save_58, e_X9_save_59, e_X9_save_60, e_X9_save_63, e_X9_save_64, e_X9_save_65, e_X9_save_66, e_X9_save_67, e_X9_save_69, e_X9_save_71, e_X9_save_74, e_X9_save_75, e_X9_save_78, e_X9_save_80, e_X9_save_81, e_X9_save_82, e_X9_save_83, e_X9_save_84, e_X9_save_85, e_X9_save_86, e_X9_save_87, e_X9_save_90, e_X9_save_92, e_X9_save_93, e_X9_save_94, e_X9_save_95, e_X9_save_96, e_X9_save_99, e_X9_save_103, e_X9_save_106, o_const, o_iload, o_aload, o_fload, o_dload, o_istore, o_astore, o_fstore, o_dstore, o_iinc, o_bin, o_div, o_un, o_i2l, o_i2f, o_i2d, o_f2d, o_fdiv, o_ddiv, o_lcmp, o_fcmp, o_dcmp, o_if, o_if2, o_goto, o_dup, o_dupx1, o_dup2, o_pop, o_getI, o_getR, o_putI, o_putR, o_iald, o_iast, o_bald, o_bast, o_zald, o_zast, o_aald, o_aast, o_jald, o_jast, o_dald, o_dast, o_alen, o_castA, o_new, o_newa, o_callv, o_callvN, o_calli, o_calls, o_objinit, o_iret, o_zret, o_fret, o_dret, o_aret, o_vret, o_throw, o_acopy, o_bcopy, o_clone, o_tsw, o_ldcS, o_kval, o_kcoder, o_klen, o_kald, o_tald, o_getSq, o_callk, o_callvH, gl, stl, stl2, pre2, va_rf, Value.category, catS, List.length_cons, List.length_nil, List.map_cons, List.map_nil, List.sum_cons, List.sum_nil, List.take_succ_cons, List.take_zero, List.drop_succ_cons, List.drop_zero, List.reverse_cons, List.reverse_nil, List.nil_append, List.cons_append, true_and, and_true, if_true, Nat.reduceAdd, Nat.reduceLT, Nat.reduceLeDiff]
    have hq2 : q = 0 ∨ q = 1 := by omega
    rcases hq2 with rfl | rfl
    · exact h0 S4 rfl (hM1.sl hM4 FF (by rw [e11, g11]) (fun t a w q => by omega) hsl (hot 1 s1 (by decide) (by decide) hs1)) g6 FM
    · exact h1 S4 rfl (hM1.sl hM4 FF (by rw [e11, g11]) (fun t a w q => by omega) (hot 0 s0 (by decide) (by decide) hs0) hsl) g6 FM
  · have ha : ¬ inI c 2 := in9n (n := 1) (by decide) rfl c1
    simp only [behind, e_X9_save_0, e_X9_save_1, e_X9_save_2, e_X9_save_3, e_X9_save_4, e_X9_save_7, e_X9_save_10, e_X9_save_11, e_X9_save_14, e_X9_save_15, e_X9_save_18, e_X9_save_19, e_X9_save_22, e_X9_save_25, e_X9_save_26, e_X9_save_27, e_X9_save_28, e_X9_save_31, e_X9_save_32, e_X9_save_33, e_X9_save_34, e_X9_save_35, e_X9_save_38, e_X9_save_40, e_X9_save_41, e_X9_save_42, e_X9_save_43, e_X9_save_46, e_X9_save_47, e_X9_save_48, e_X9_save_49, e_X9_save_50, e_X9_save_53, e_X9_save_55, e_X9_save_56, e_X9_save_57, e_X9_save_58, e_X9_save_59, e_X9_save_60, e_X9_save_63, e_X9_save_64, e_X9_save_65, e_X9_save_66, e_X9_save_67, e_X9_save_69, e_X9_save_71, e_X9_save_74, e_X9_save_75, e_X9_save_78, e_X9_save_80, e_X9_save_81, e_X9_save_82, e_X9_save_83, e_X9_save_84, e_X9_save_85, e_X9_save_86, e_X9_save_87, e_X9_save_90, e_X9_save_92, e_X9_save_93, e_X9_save_94, e_X9_save_95, e_X9_save_96, e_X9_save_99, e_X9_save_103, e_X9_save_106, o_const, o_iload, o_aload, o_fload, o_dload, o_istore, o_astore, o_fstore, o_dstore, o_iinc, o_bin, o_div, o_un, o_i2l, o_i2f, o_i2d, o_f2d, o_fdiv, o_ddiv, o_lcmp, o_fcmp, o_dcmp, o_if, o_if2, o_goto, o_dup, o_dupx1, o_dup2, o_pop, o_getI, o_getR, o_putI, o_putR, o_iald, o_iast, o_bald, o_bast, o_zald, o_zast, o_aald, o_aast, o_jald, o_jast, o_dald, o_dast, o_alen, o_castA, o_new, o_newa, o_callv, o_callvN, o_calli, o_calls, o_objinit, o_iret, o_zret, o_fret, o_dret, o_aret, o_vret, o_throw, o_acopy, o_bcopy, o_clone, o_tsw, o_ldcS, o_kval, o_kcoder, o_klen, o_kald, o_tald, o_getSq, o_callk, o_callvH, gl, stl, stl2, pre2, va_rf, Value.category, catS, List.length_cons, List.length_nil, List.map_cons, List.map_nil, List.sum_cons, List.sum_nil, List.take_succ_cons, List.take_zero, List.drop_succ_cons, List.drop_zero, List.reverse_cons, List.reverse_nil, List.nil_append, List.cons_append, true_and, and_true, if_true, Nat.reduceAdd, Nat.reduceLT, Nat.reduceLeDiff, hm, gL_sW, gL_sI, gL_sR, gL_sC, gL_nW, gK_sW, gK_sI, gK_sR, gK_sC, gK_nW, gN_sW, gN_sI, gN_sR, gN_sC, gN_nW, gC_sW, gC_sI, gC_sR, gC_sC, gC_nW, gZ_sW, gZ_sI, gZ_sR, gZ_sC, gZ_nW, narI, gR_sI, gI_sIk, Nat.reduceEqDiff, false_and, and_false, if_false, and_self]
    exact ⟨fun _ => ⟨fun z => absurd z (by decide), fun _ => h2 _ _ ha (hM.f (by decide)) (by rw [gI_sIk, if_pos ⟨rfl, rfl, rfl⟩]) (nM_fr S)⟩, fun z => absurd (by decide) z⟩
end SPS
