/-! SEEN CODES, copied -/
theorem SeenR.fr {S S' : M9} {W : Nat → Nat → Prop} {c z q kc kt n L : Nat} {cd tm : Nat → Nat} (h : SeenR S q kc kt n L cd tm) (hF : Fr S S' W c z) (h6 : ¬ W 6 q) (hc : ∀ a, ¬ W kc a) (ht : ∀ a, ¬ W kt a) : SeenR S' q kc kt n L cd tm := by
  obtain ⟨c6, t6, sq1, sq2, sq3, sq4, sq5, sq6, sq7, sq8, ⟨sc1, sc2, sc3, sc4⟩, ⟨st1, st2, st3, st4⟩⟩ := h
  obtain ⟨x1, x2, -⟩ := hF.1 q sq1
  obtain ⟨y1, y2, -⟩ := hF.2.1 6 q sq1 h6
  obtain ⟨u1, u2, u3⟩ := hF.1 c6 sc1
  obtain ⟨v1, v2, v3⟩ := hF.1 t6 st1
  refine ⟨c6, t6, x1, x2.trans sq2, by rw [y1]; exact sq3, sq4, sq5, sq6, by rw [y2]; exact sq7, by rw [y2]; exact sq8, ⟨u1, u2.trans sc2, u3.trans sc3, fun k hk => ?_⟩, ⟨v1, v2.trans st2, v3.trans st3, fun k hk => ?_⟩⟩
  · rw [(hF.2.1 kc c6 sc1 (hc _)).1]; exact sc4 k hk
  · rw [(hF.2.1 kt t6 st1 (ht _)).1]; exact st4 k hk
section SPS
variable {ks : Nat → Nat} {d : Nat} {Q : QP} {S : M9} {q kc kt n L : Nat} {cd tm : Nat → Nat} {q2 kc2 kt2 n2 L2 : Nat} {cd2 tm2 : Nat → Nat}
theorem sp_seenCopy (hR : SeenR S q kc kt n L cd tm) (hR2 : SeenR S q2 kc2 kt2 n2 L2 cd2 tm2) (hne : ¬ q2 = q) (hk1 : ¬ kc2 = kc ∧ ¬ kc2 = kt ∧ ¬ kt2 = kc ∧ ¬ kt2 = kt) (hn : n2 ≤ 10000) (hc : gC S + 2 ≤ cCM) (hz : gZ S + 2 * max n2 (2 * L) ≤ cSM)
    (h : ∀ S' L', SeenR S' q kc kt n2 L' cd2 tm2 → L ≤ L' → Fr S S' (SeenA S q kc kt) 2 (4 * (L' - L)) → (∀ t a, SeenA S' q kc kt t a → a ∈ gL S → SeenA S q kc kt t a) → Q (.inl none) S') : WG ks (d + 4) n_X4_copyFrom [.ref q, .ref q2] S Q := by
  refine ⟨by simp [cat1, Value.category], by show (2 : Nat) ≤ 2; decide, ?_⟩
  show Run ks (WG ks (d + 3)) Q tb_X4_copyFrom 0 [some (.ref q), some (.ref q2)] [] S
  have hR0 := hR
  obtain ⟨c6, t6, sq1, sq2, sq3, sq4, sq5, sq6, sq7, sq8, -, -⟩ := hR0
  have hR3 := hR2
  obtain ⟨c0, t0, o1, o2, o3, o4, o5, o6, o7, o8, -, -⟩ := hR3
  simp only [e_X4_copyFrom_0, e_X4_copyFrom_1, e_X4_copyFrom_2, e_X4_copyFrom_5, e_X4_copyFrom_8, e_X4_copyFrom_9, e_X4_copyFrom_12, e_X4_copyFrom_13, e_X4_copyFrom_14, e_X4_copyFrom_17, e_X4_copyFrom_18, e_X4_copyFrom_19, e_X4_copyFrom_22, e_X4_copyFrom_25, e_X4_copyFrom_26, e_X4_copyFrom_29, e_X4_copyFrom_30, e_X4_copyFrom_31, e_X4_copyFrom_34, e_X4_copyFrom_35, e_X4_copyFrom_36, e_X4_copyFrom_39, e_X4_copyFrom_42, e_X4_copyFrom_43, e_X4_copyFrom_44, e_X4_copyFrom_47, e_X4_copyFrom_50, o_const, o_iload, o_aload, o_fload, o_dload, o_istore, o_astore, o_fstore, o_dstore, o_iinc, o_bin, o_div, o_un, o_i2l, o_i2f, o_i2d, o_f2d, o_fdiv, o_ddiv, o_lcmp, o_fcmp, o_dcmp, o_if, o_if2, o_goto, o_dup, o_dupx1, o_dup2, o_pop, o_getI, o_getR, o_putI, o_putR, o_iald, o_iast, o_bald, o_bast, o_zald, o_zast, o_aald, o_aast, o_jald, o_jast, o_dald, o_dast, o_alen, o_castA, o_new, o_newa, o_callv, o_callvN, o_calli, o_calls, o_objinit, o_iret, o_zret, o_fret, o_dret, o_aret, o_vret, o_throw, o_acopy, o_bcopy, o_clone, o_tsw, o_ldcS, o_kval, o_kcoder, o_klen, o_kald, o_tald, o_getSq, o_callk, o_callvH, gl, stl, stl2, pre2, va_rf, Value.category, catS, List.length_cons, List.length_nil, List.map_cons, List.map_nil, List.sum_cons, List.sum_nil, List.take_succ_cons, List.take_zero, List.drop_succ_cons, List.drop_zero, List.reverse_cons, List.reverse_nil, List.nil_append, List.cons_append, true_and, and_true, Nat.reduceAdd, Nat.reduceLT, Nat.reduceLeDiff, o1, o2, o3]
  refine ⟨⟨q, _, rfl, rfl, sq1, sq2⟩, sp_makeRoomFor hR hn hc hz (fun S1 L1 hR1 hp1 hL1 hL2 hF1 hA1 => ?_)⟩
  have hX := hR2.fr hF1 (fun w => hne w.2) (fun a w => by have := o6.1; omega) (fun a w => by have := o6.2.1; omega)
  have hR4 := hR1
  obtain ⟨c7, t7, sr1, sr2, sr3, sr4, sr5, sr6, sr7, sr8, ⟨su1, su2, su3, su4⟩, ⟨sv1, sv2, sv3, sv4⟩⟩ := hR4
  obtain ⟨c9, t9, w1, w2, w3, w4, w5, w6, w7, w8, ⟨x1, x2, x3, x4⟩, ⟨y1, y2, y3, y4⟩⟩ := hX
  have k6 : ¬ 6 = kc := by omega
  have k7 : ¬ 6 = kt := by omega
  have hcl : (nI n2).toNatClampNeg = n2 := nI_clamp (by omega)
  have h0 : Int32.toNatClampNeg 0 = 0 := by decide
  simp only [behind, e_X4_copyFrom_0, e_X4_copyFrom_1, e_X4_copyFrom_2, e_X4_copyFrom_5, e_X4_copyFrom_8, e_X4_copyFrom_9, e_X4_copyFrom_12, e_X4_copyFrom_13, e_X4_copyFrom_14, e_X4_copyFrom_17, e_X4_copyFrom_18, e_X4_copyFrom_19, e_X4_copyFrom_22, e_X4_copyFrom_25, e_X4_copyFrom_26, e_X4_copyFrom_29, e_X4_copyFrom_30, e_X4_copyFrom_31, e_X4_copyFrom_34, e_X4_copyFrom_35, e_X4_copyFrom_36, e_X4_copyFrom_39, e_X4_copyFrom_42, e_X4_copyFrom_43, e_X4_copyFrom_44, e_X4_copyFrom_47, e_X4_copyFrom_50, o_const, o_iload, o_aload, o_fload, o_dload, o_istore, o_astore, o_fstore, o_dstore, o_iinc, o_bin, o_div, o_un, o_i2l, o_i2f, o_i2d, o_f2d, o_fdiv, o_ddiv, o_lcmp, o_fcmp, o_dcmp, o_if, o_if2, o_goto, o_dup, o_dupx1, o_dup2, o_pop, o_getI, o_getR, o_putI, o_putR, o_iald, o_iast, o_bald, o_bast, o_zald, o_zast, o_aald, o_aast, o_jald, o_jast, o_dald, o_dast, o_alen, o_castA, o_new, o_newa, o_callv, o_callvN, o_calli, o_calls, o_objinit, o_iret, o_zret, o_fret, o_dret, o_aret, o_vret, o_throw, o_acopy, o_bcopy, o_clone, o_tsw, o_ldcS, o_kval, o_kcoder, o_klen, o_kald, o_tald, o_getSq, o_callk, o_callvH, gl, stl, stl2, pre2, va_rf, Value.category, catS, List.length_cons, List.length_nil, List.map_cons, List.map_nil, List.sum_cons, List.sum_nil, List.take_succ_cons, List.take_zero, List.drop_succ_cons, List.drop_zero, List.reverse_cons, List.reverse_nil, List.nil_append, List.cons_append, true_and, and_true, Nat.reduceAdd, Nat.reduceLT, Nat.reduceLeDiff, sr1, sr2, sr3, sr7, sr8, su1, su2, su3, sv1, sv2, sv3, w1, w2, w3, w7, w8, x1, x2, x3, y1, y2, y3, gL_sW, gL_sI, gL_sR, gL_sC, gL_nW, gK_sW, gK_sI, gK_sR, gK_sC, gK_nW, gN_sW, gN_sI, gN_sR, gN_sC, gN_nW, gC_sW, gC_sI, gC_sR, gC_sC, gC_nW, gZ_sW, gZ_sI, gZ_sR, gZ_sC, gZ_nW, gI_sW, gR_sW, k6, k7, false_and, if_false, hcl, h0, narI, Nat.zero_add]
  have hcp : ∀ (f g : Nat → Int32) k, k < n2 → va_cpy f g 0 0 n2 k = f k := by
    intro f g k hk
    simp [va_cpy, hk]
  have k8 : ¬ kt = kc := fun e => sq6.2.2 e.symm
  rw [if_neg (fun z => hk1.2.2.1 z.1)]
  refine ⟨o6.1, sq6.1, by decide, by decide, nI_pos (by omega), o4, hp1, o6.2.1, sq6.2.1, by decide, by decide, nI_pos (by omega), o4, hp1, h _ L1 ⟨c7, t7, sr1, sr2, ?_, hp1, sr5, sr6, sr7, sr8, ⟨su1, su2, su3, fun j hj => ?_⟩, ⟨sv1, sv2, sv3, fun j hj => ?_⟩⟩ hL1 ?_ (fun t a hA hin => hA1 t a hA hin)⟩
  · rw [gI_sIk, if_pos ⟨rfl, rfl, rfl⟩]
  · rw [gI_sIk, if_neg (fun z => k6 z.1.symm), gI_sW, if_neg (fun z => sq6.2.2 z.1), gI_W, hcp _ _ j hj]
    exact x4 j hj
  · rw [gI_sIk, if_neg (fun z => k7 z.1.symm), gI_W, hcp _ _ j hj]
    exact y4 j hj
  · exact (hF1.trans ((Fr.sW S1 kc c7 _).trans ((Fr.sW _ kt t7 _).trans (Fr.sI _ 6 q 2 _)))).mono (fun t a ha w => by
      rcases w with w | w | w | w
      · exact Or.inl w
      · exact hA1 t a (Or.inr (Or.inl ⟨w.1, by rw [w.2]; exact sr7⟩)) ha
      · exact hA1 t a (Or.inr (Or.inr ⟨w.1, by rw [w.2]; exact sr8⟩)) ha
      · exact Or.inl w) (by omega) (by omega)
end SPS
