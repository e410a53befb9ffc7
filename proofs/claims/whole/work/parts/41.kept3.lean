/-! THE CONVERSIONS KEPT, begun and copied -/
section SPS
variable {ks : Nat → Nat} {d : Nat} {Q : QP} {S : M9} {k ki kc kb kn sz nx : Nat} {inp cod : Nat → Nat} {bit noi : Nat → Int32} {k' ki' kc' kb' kn' sz' nx' : Nat} {inp' cod' : Nat → Nat} {bit' noi' : Nat → Int32}
theorem sp_keptCopy (hR : KeptR S k ki kc kb kn sz nx inp cod bit noi) (hR' : KeptR S k' ki' kc' kb' kn' sz' nx' inp' cod' bit' noi') (hne : ¬ k' = k) (hd : ∀ a, (a = ki' ∨ a = kc' ∨ a = kb' ∨ a = kn') → ¬ a = ki ∧ ¬ a = kc ∧ ¬ a = kb ∧ ¬ a = kn)
    (h : ∀ S', KeptR S' k ki kc kb kn sz' nx' inp' cod' bit' noi' → Fr S S' (KeptA S k ki kc kb kn) 0 0 → gR S' 3 k = gR S 3 k → Q (.inl none) S') : WG ks (d + 1) n_X1_copyFrom [.ref k, .ref k'] S Q := by
  obtain ⟨i, c, b9, o, kq1, kq2, kq3, kq4, kq5, kq6, kq7, kq8, kq9, kq10, ⟨in1, in2, in3, in4⟩, ⟨cn1, cn2, cn3, cn4⟩, ⟨bn1, bn2, bn3, bn4⟩, ⟨on1, on2, on3, on4⟩⟩ := hR
  obtain ⟨i', c', b', o', kp1, kp2, kp3, kp4, kp5, kp6, kp7, kp8, kp9, kp10, ⟨ip1, ip2, ip3, ip4⟩, ⟨cp1, cp2, cp3, cp4⟩, ⟨bp1, bp2, bp3, bp4⟩, ⟨op1, op2, op3, op4⟩⟩ := hR'
  refine ⟨by simp [cat1, Value.category], by show (2 : Nat) ≤ 2; decide, ?_⟩
  show Run ks (WG ks d) Q tb_X1_copyFrom 0 [some (.ref k), some (.ref k')] [] S
  obtain ⟨i1, i2, i3, i4, n1, n2, n3, n4, n5, n6⟩ := kq6
  obtain ⟨l1, l2, l3, l4, -⟩ := kp6
  obtain ⟨a1, a2, a3, a4⟩ := hd ki' (Or.inl rfl)
  obtain ⟨b1, b2, b3, b4⟩ := hd kc' (Or.inr (Or.inl rfl))
  obtain ⟨c1, c2, c3, c4⟩ := hd kb' (Or.inr (Or.inr (Or.inl rfl)))
  obtain ⟨e1, e2, e3, e4⟩ := hd kn' (Or.inr (Or.inr (Or.inr rfl)))
  have k1 : ¬ 3 = ki := by omega
  have k2 : ¬ 3 = kc := by omega
  have k3 : ¬ 3 = kb := by omega
  have k4 : ¬ 3 = kn := by omega
  have n7 : ¬ kc = ki := fun e => n1 e.symm
  have n8 : ¬ kb = ki := fun e => n2 e.symm
  have n9 : ¬ kn = ki := fun e => n3 e.symm
  have n10 : ¬ kb = kc := fun e => n4 e.symm
  have n11 : ¬ kn = kc := fun e => n5 e.symm
  have n12 : ¬ kn = kb := fun e => n6 e.symm
  have c0 : Int32.toNatClampNeg 0 = 0 := by decide
  simp only [e_X1_copyFrom_0, e_X1_copyFrom_1, e_X1_copyFrom_4, e_X1_copyFrom_5, e_X1_copyFrom_6, e_X1_copyFrom_9, e_X1_copyFrom_10, e_X1_copyFrom_12, e_X1_copyFrom_15, e_X1_copyFrom_16, e_X1_copyFrom_19, e_X1_copyFrom_20, e_X1_copyFrom_21, e_X1_copyFrom_24, e_X1_copyFrom_25, e_X1_copyFrom_27, e_X1_copyFrom_30, e_X1_copyFrom_31, e_X1_copyFrom_34, e_X1_copyFrom_35, e_X1_copyFrom_36, e_X1_copyFrom_39, e_X1_copyFrom_40, e_X1_copyFrom_42, e_X1_copyFrom_45, e_X1_copyFrom_46, e_X1_copyFrom_49, e_X1_copyFrom_50, e_X1_copyFrom_51, e_X1_copyFrom_54, e_X1_copyFrom_55, e_X1_copyFrom_58, e_X1_copyFrom_61, e_X1_copyFrom_62, e_X1_copyFrom_63, e_X1_copyFrom_66, e_X1_copyFrom_69, e_X1_copyFrom_70, e_X1_copyFrom_71, e_X1_copyFrom_74, e_X1_copyFrom_77, o_const, o_iload, o_aload, o_fload, o_dload, o_istore, o_astore, o_fstore, o_dstore, o_iinc, o_bin, o_div, o_un, o_i2l, o_i2f, o_i2d, o_f2d, o_fdiv, o_ddiv, o_lcmp, o_fcmp, o_dcmp, o_if, o_if2, o_goto, o_dup, o_dupx1, o_dup2, o_pop, o_getI, o_getR, o_putI, o_putR, o_iald, o_iast, o_bald, o_bast, o_zald, o_zast, o_aald, o_aast, o_jald, o_jast, o_dald, o_dast, o_alen, o_castA, o_new, o_newa, o_callv, o_callvN, o_calli, o_calls, o_objinit, o_iret, o_zret, o_fret, o_dret, o_aret, o_vret, o_throw, o_acopy, o_bcopy, o_clone, o_tsw, o_ldcS, o_kval, o_kcoder, o_klen, o_kald, o_tald, o_getSq, o_callk, o_callvH, gl, stl, stl2, pre2, va_rf, Value.category, catS, List.length_cons, List.length_nil, List.map_cons, List.map_nil, List.sum_cons, List.sum_nil, List.take_succ_cons, List.take_zero, List.drop_succ_cons, List.drop_zero, List.reverse_cons, List.reverse_nil, List.nil_append, List.cons_append, true_and, and_true, Nat.reduceAdd, Nat.reduceLT, Nat.reduceLeDiff, Nat.reduceEqDiff, and_false, c0, cl_20, cl_200, Nat.zero_add, gI_sW, a1, a2, a3, b1, b2, b3, c1, c2, c3, e1, e2, e3, n7, n8, n9, n10, n11, n12, kq1, kq2, kq7, kq8, kq9, kq10, in1, in2, in3, cn1, cn2, cn3, bn1, bn2, bn3, on1, on2, on3, kp1, kp2, kp3, kp4, kp7, kp8, kp9, kp10, ip1, ip2, ip3, cp1, cp2, cp3, bp1, bp2, bp3, op1, op2, op3, gL_sW, gL_sI, gL_sR, gL_sC, gL_nW, gK_sW, gK_sI, gK_sR, gK_sC, gK_nW, gN_sW, gN_sI, gN_sR, gN_sC, gN_nW, gC_sW, gC_sI, gC_sR, gC_sC, gC_nW, gZ_sW, gZ_sI, gZ_sR, gZ_sC, gZ_nW, gI_sIk, gR_sI, gR_sW, k1, k2, k3, k4, false_and, hne, if_false, narI]
  have hcp : ∀ (f g : Nat → Int32) (N j : Nat), j < N → va_cpy f g 0 0 N j = f j := by
    intro f g N j hj
    simp [va_cpy, hj]
  refine ⟨l1, i1, by decide, by decide, by decide, l2, i2, by decide, by decide, by decide, l3, i3, by decide, by decide, by decide, l4, i4, by decide, by decide, by decide, h _ ⟨i, c, b9, o, kq1, kq2, ?_, ?_, kp5, ⟨i1, i2, i3, i4, n1, n2, n3, n4, n5, n6⟩, kq7, kq8, kq9, kq10, ⟨in1, in2, in3, fun j hj => ?_⟩, ⟨cn1, cn2, cn3, fun j hj => ?_⟩, ⟨bn1, bn2, bn3, fun j hj => ?_⟩, ⟨on1, on2, on3, fun j hj => ?_⟩⟩ ?_ rfl⟩
  · rw [gI_sIk, if_neg (fun z => absurd z.2.2 (by decide)), gI_sIk, if_pos ⟨rfl, rfl, rfl⟩]
  · rw [gI_sIk, if_pos ⟨rfl, rfl, rfl⟩]
  · rw [gI_sIk, if_neg (fun z => k1 z.1.symm), gI_sIk, if_neg (fun z => k1 z.1.symm), gI_sW, if_neg (fun z => n3 z.1), gI_sW, if_neg (fun z => n2 z.1), gI_sW, if_neg (fun z => n1 z.1), gI_W, hcp _ _ _ _ hj]; exact ip4 j hj
  · rw [gI_sIk, if_neg (fun z => k2 z.1.symm), gI_sIk, if_neg (fun z => k2 z.1.symm), gI_sW, if_neg (fun z => n5 z.1), gI_sW, if_neg (fun z => n4 z.1), gI_W, hcp _ _ _ _ hj]; exact cp4 j hj
  · rw [gI_sIk, if_neg (fun z => k3 z.1.symm), gI_sIk, if_neg (fun z => k3 z.1.symm), gI_sW, if_neg (fun z => n6 z.1), gI_W, hcp _ _ _ _ hj]; exact bp4 j hj
  · rw [gI_sIk, if_neg (fun z => k4 z.1.symm), gI_sIk, if_neg (fun z => k4 z.1.symm), gI_W, hcp _ _ _ _ hj]; exact op4 j hj
  · exact ((Fr.sW S ki i _).trans ((Fr.sW _ kc c _).trans ((Fr.sW _ kb b9 _).trans ((Fr.sW _ kn o _).trans ((Fr.sI _ 3 k 4 _).trans (Fr.sI _ 3 k 5 _)))))).mono (fun t a ha w => by
      rcases w with w | w | w | w | w | w
      · exact Or.inr (Or.inl ⟨w.1, by rw [w.2]; exact kq7⟩)
      · exact Or.inr (Or.inr (Or.inl ⟨w.1, by rw [w.2]; exact kq8⟩))
      · exact Or.inr (Or.inr (Or.inr (Or.inl ⟨w.1, by rw [w.2]; exact kq9⟩)))
      · exact Or.inr (Or.inr (Or.inr (Or.inr ⟨w.1, by rw [w.2]; exact kq10⟩)))
      · exact Or.inl w
      · exact Or.inl w) (by decide) (by decide)
end SPS
