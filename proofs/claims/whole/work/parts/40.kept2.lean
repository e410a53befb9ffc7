/-! THE CONVERSIONS KEPT, changed -/
theorem nxt_20 : ∀ nx, nx < 20 → (nI nx + 1) - (nI nx + 1) / 20 * 20 = nI ((nx + 1) % 20) := by decide +kernel
def KeptA (S : M9) (k ki kc kb kn : Nat) (t a : Nat) : Prop := (t = 3 ∧ a = k) ∨ (t = ki ∧ gR S 3 k 0 = some a) ∨ (t = kc ∧ gR S 3 k 1 = some a) ∨ (t = kb ∧ gR S 3 k 2 = some a) ∨ (t = kn ∧ gR S 3 k 3 = some a)
section SPS
variable {ks : Nat → Nat} {d : Nat} {Q : QP} {S : M9} {k ki kc kb kn sz nx : Nat} {inp cod : Nat → Nat} {bit noi : Nat → Int32}
theorem sp_keptAdd (hR : KeptR S k ki kc kb kn sz nx inp cod bit noi) {x y g kg : Nat} {b : Int32} {dr : Nat → Int32} (hg : ArrR S kg g 10 dr) (hg17 : 17 ≤ kg ∧ ¬ kg = ki ∧ ¬ kg = kc ∧ ¬ kg = kb ∧ ¬ kg = kn)
    (h : ∀ S', KeptR S' k ki kc kb kn (min (sz + 1) 20) ((nx + 1) % 20) (fun j => if j = nx then x else inp j) (fun j => if j = nx then y else cod j) (fun j => if j = nx then b else bit j) (fun j => if nx * 10 ≤ j ∧ j < nx * 10 + 10 then dr (j - nx * 10) else noi j) → Fr S S' (KeptA S k ki kc kb kn) 0 0 → gR S' 3 k = gR S 3 k → Q (.inl none) S') : WG ks (d + 2) n_X1_add [.ref k, .int (nI x), .int (nI y), .int b, .ref g] S Q := by
  obtain ⟨i, c, b9, o, kq1, kq2, kq3, kq4, kq5, kq6, kq7, kq8, kq9, kq10, ⟨in1, in2, in3, in4⟩, ⟨cn1, cn2, cn3, cn4⟩, ⟨bn1, bn2, bn3, bn4⟩, ⟨on1, on2, on3, on4⟩⟩ := hR
  obtain ⟨g1, g2, g3, g4⟩ := hg
  refine ⟨by simp [cat1, Value.category], by show (5 : Nat) ≤ 5; decide, ?_⟩
  show Run ks (WG ks (d + 1)) Q tb_X1_add 0 [some (.ref k), some (.int (nI x)), some (.int (nI y)), some (.int b), some (.ref g)] [] S
  have hcl : (nI nx).toNatClampNeg = nx := nI_clamp (by omega)
  have k1 : ¬ 3 = ki := by omega
  have k2 : ¬ 3 = kc := by omega
  have k3 : ¬ 3 = kb := by omega
  have k4 : ¬ 3 = kn := by omega
  have m10 : nI nx * 10 = nI (nx * 10) := by rw [show (10 : Int32) = nI 10 from rfl, pk_mul]
  have c10 : (nI (nx * 10)).toNatClampNeg = nx * 10 := nI_clamp (by omega)
  have c0 : Int32.toNatClampNeg 0 = 0 := by decide
  have j1 : ¬ kg = ki := hg17.2.1
  have j2 : ¬ kg = kc := hg17.2.2.1
  have j3 : ¬ kg = kb := hg17.2.2.2.1
  obtain ⟨i1, i2, i3, i4, n1, n2, n3, n4, n5, n6⟩ := kq6
  have n7 : ¬ kc = ki := fun e => n1 e.symm
  have n8 : ¬ kb = ki := fun e => n2 e.symm
  have n9 : ¬ kn = ki := fun e => n3 e.symm
  have n10 : ¬ kb = kc := fun e => n4 e.symm
  have n11 : ¬ kn = kc := fun e => n5 e.symm
  have n12 : ¬ kn = kb := fun e => n6 e.symm
  simp only [e_X1_add_0, e_X1_add_1, e_X1_add_4, e_X1_add_7, e_X1_add_8, e_X1_add_11, e_X1_add_13, e_X1_add_16, e_X1_add_18, e_X1_add_19, e_X1_add_21, e_X1_add_24, e_X1_add_25, e_X1_add_26, e_X1_add_29, e_X1_add_30, e_X1_add_33, e_X1_add_34, e_X1_add_35, e_X1_add_36, e_X1_add_39, e_X1_add_40, e_X1_add_43, e_X1_add_44, e_X1_add_45, e_X1_add_46, e_X1_add_49, e_X1_add_50, e_X1_add_53, e_X1_add_54, e_X1_add_55, e_X1_add_57, e_X1_add_58, e_X1_add_59, e_X1_add_62, e_X1_add_63, e_X1_add_66, e_X1_add_68, e_X1_add_69, e_X1_add_71, e_X1_add_74, e_X1_add_75, e_X1_add_76, e_X1_add_79, e_X1_add_80, e_X1_add_81, e_X1_add_83, e_X1_add_84, e_X1_add_87, e_X1_add_88, e_X1_add_89, e_X1_add_92, e_X1_add_93, e_X1_add_94, e_X1_add_96, e_X1_add_99, e_X1_add_102, o_const, o_iload, o_aload, o_fload, o_dload, o_istore, o_astore, o_fstore, o_dstore, o_iinc, o_bin, o_div, o_un, o_i2l, o_i2f, o_i2d, o_f2d, o_fdiv, o_ddiv, o_lcmp, o_fcmp, o_dcmp, o_if, o_if2, o_goto, o_dup, o_dupx1, o_dup2, o_pop, o_getI, o_getR, o_putI, o_putR, o_iald, o_iast, o_bald, o_bast, o_zald, o_zast, o_aald, o_aast, o_jald, o_jast, o_dald, o_dast, o_alen, o_castA, o_new, o_newa, o_callv, o_callvN, o_calli, o_calls, o_objinit, o_iret, o_zret, o_fret, o_dret, o_aret, o_vret, o_throw, o_acopy, o_bcopy, o_clone, o_tsw, o_ldcS, o_kval, o_kcoder, o_klen, o_kald, o_tald, o_getSq, o_callk, o_callvH, gl, stl, stl2, pre2, va_rf, Value.category, catS, List.length_cons, List.length_nil, List.map_cons, List.map_nil, List.sum_cons, List.sum_nil, List.take_succ_cons, List.take_zero, List.drop_succ_cons, List.drop_zero, List.reverse_cons, List.reverse_nil, List.nil_append, List.cons_append, true_and, and_true, Nat.reduceAdd, Nat.reduceLT, Nat.reduceLeDiff, Nat.reduceEqDiff, and_false, m10, c10, c0, cl_10, Nat.zero_add, gI_sI, j1, j2, j3, n9, n11, n12, nI_1, kq1, kq2, kq3, kq4, kq7, kq8, kq9, kq10, in1, in2, in3, cn1, cn2, cn3, bn1, bn2, bn3, on1, on2, on3, g1, g2, g3, gL_sW, gL_sI, gL_sR, gL_sC, gL_nW, gK_sW, gK_sI, gK_sR, gK_sC, gK_nW, gN_sW, gN_sI, gN_sR, gN_sC, gN_nW, gC_sW, gC_sI, gC_sR, gC_sC, gC_nW, gZ_sW, gZ_sI, gZ_sR, gZ_sC, gZ_nW, gI_sIk, gR_sI, gI_sW, gR_sW, k1, k2, k3, k4, false_and, if_false, hcl, narI, nxt_20 nx kq5.2]
  refine ⟨fun c => absurd c (nI_pos (by omega)), fun _ => ⟨fun c => absurd ((nI_leI (by decide) (by omega)).mp (show nI 20 ≤ nI nx from c)) (by omega), fun _ => ⟨by omega, fun _ => ?_, fun c => absurd (show (10 : Int32) ≤ nI 10 by decide) c⟩⟩⟩
  refine ⟨i1, vp_in_nI kq5.2 (by decide), i2, vp_in_nI kq5.2 (by decide), i3, vp_in_nI kq5.2 (by decide), hg17.1, i4, by decide, nI_pos (by omega), by decide, by omega, by decide, sp_min ?_⟩
  have hmn : (if 20 < nI (sz + 1) then 20 else nI (sz + 1)) = nI (min (sz + 1) 20) := by
    by_cases e : 20 < sz + 1
    · rw [if_pos (show (20 : Int32) < nI (sz + 1) from (nI_ltI (a := 20) (by decide) (by omega)).mpr e), Nat.min_eq_right (by omega)]; rfl
    · rw [if_neg (show ¬ (20 : Int32) < nI (sz + 1) from fun z => e ((nI_ltI (a := 20) (by decide) (by omega)).mp z)), Nat.min_eq_left (by omega)]
  have hnx := nxt_20 nx kq5.2
  rw [nI_1] at hnx
  rw [hmn, hnx]
  simp only [behind, e_X1_add_0, e_X1_add_1, e_X1_add_4, e_X1_add_7, e_X1_add_8, e_X1_add_11, e_X1_add_13, e_X1_add_16, e_X1_add_18, e_X1_add_19, e_X1_add_21, e_X1_add_24, e_X1_add_25, e_X1_add_26, e_X1_add_29, e_X1_add_30, e_X1_add_33, e_X1_add_34, e_X1_add_35, e_X1_add_36, e_X1_add_39, e_X1_add_40, e_X1_add_43, e_X1_add_44, e_X1_add_45, e_X1_add_46, e_X1_add_49, e_X1_add_50, e_X1_add_53, e_X1_add_54, e_X1_add_55, e_X1_add_57, e_X1_add_58, e_X1_add_59, e_X1_add_62, e_X1_add_63, e_X1_add_66, e_X1_add_68, e_X1_add_69, e_X1_add_71, e_X1_add_74, e_X1_add_75, e_X1_add_76, e_X1_add_79, e_X1_add_80, e_X1_add_81, e_X1_add_83, e_X1_add_84, e_X1_add_87, e_X1_add_88, e_X1_add_89, e_X1_add_92, e_X1_add_93, e_X1_add_94, e_X1_add_96, e_X1_add_99, e_X1_add_102, o_const, o_iload, o_aload, o_fload, o_dload, o_istore, o_astore, o_fstore, o_dstore, o_iinc, o_bin, o_div, o_un, o_i2l, o_i2f, o_i2d, o_f2d, o_fdiv, o_ddiv, o_lcmp, o_fcmp, o_dcmp, o_if, o_if2, o_goto, o_dup, o_dupx1, o_dup2, o_pop, o_getI, o_getR, o_putI, o_putR, o_iald, o_iast, o_bald, o_bast, o_zald, o_zast, o_aald, o_aast, o_jald, o_jast, o_dald, o_dast, o_alen, o_castA, o_new, o_newa, o_callv, o_callvN, o_calli, o_calls, o_objinit, o_iret, o_zret, o_fret, o_dret, o_aret, o_vret, o_throw, o_acopy, o_bcopy, o_clone, o_tsw, o_ldcS, o_kval, o_kcoder, o_klen, o_kald, o_tald, o_getSq, o_callk, o_callvH, gl, stl, stl2, pre2, va_rf, Value.category, catS, List.length_cons, List.length_nil, List.map_cons, List.map_nil, List.sum_cons, List.sum_nil, List.take_succ_cons, List.take_zero, List.drop_succ_cons, List.drop_zero, List.reverse_cons, List.reverse_nil, List.nil_append, List.cons_append, true_and, and_true, Nat.reduceAdd, Nat.reduceLT, Nat.reduceLeDiff, kq1, kq2, gL_sW, gL_sI, gL_sR, gL_sC, gL_nW, gK_sW, gK_sI, gK_sR, gK_sC, gK_nW, gN_sW, gN_sI, gN_sR, gN_sC, gN_nW, gC_sW, gC_sI, gC_sR, gC_sC, gC_nW, gZ_sW, gZ_sI, gZ_sR, gZ_sC, gZ_nW, narI]
  refine h _ ⟨i, c, b9, o, kq1, kq2, ?_, ?_, ⟨by omega, Nat.mod_lt _ (by decide)⟩, ⟨i1, i2, i3, i4, n1, n2, n3, n4, n5, n6⟩, kq7, kq8, kq9, kq10, ⟨in1, in2, in3, fun j hj => ?_⟩, ⟨cn1, cn2, cn3, fun j hj => ?_⟩, ⟨bn1, bn2, bn3, fun j hj => ?_⟩, ⟨on1, on2, on3, fun j hj => ?_⟩⟩ ?_ rfl
  · rw [gI_sIk, if_pos ⟨rfl, rfl, rfl⟩]
  · rw [gI_sIk, if_neg (fun z => absurd z.2.2 (by decide)), gI_sIk, if_pos ⟨rfl, rfl, rfl⟩]
  · rw [gI_sIk, if_neg (fun z => k1 z.1.symm), gI_sIk, if_neg (fun z => k1 z.1.symm), gI_sW, if_neg (fun z => n3 z.1), gI_sIk, if_neg (fun z => n2 z.1), gI_sIk, if_neg (fun z => n1 z.1), gI_sIk]
    by_cases e : j = nx
    · rw [if_pos ⟨rfl, rfl, e⟩]; simp only [if_pos e]
    · rw [if_neg (fun z => e z.2.2)]; simp only [if_neg e]; exact in4 j hj
  · rw [gI_sIk, if_neg (fun z => k2 z.1.symm), gI_sIk, if_neg (fun z => k2 z.1.symm), gI_sW, if_neg (fun z => n5 z.1), gI_sIk, if_neg (fun z => n4 z.1), gI_sIk]
    by_cases e : j = nx
    · rw [if_pos ⟨rfl, rfl, e⟩]; simp only [if_pos e]
    · rw [if_neg (fun z => e z.2.2), gI_sIk, if_neg (fun z => n7 z.1)]; simp only [if_neg e]; exact cn4 j hj
  · rw [gI_sIk, if_neg (fun z => k3 z.1.symm), gI_sIk, if_neg (fun z => k3 z.1.symm), gI_sW, if_neg (fun z => n6 z.1), gI_sIk]
    by_cases e : j = nx
    · rw [if_pos ⟨rfl, rfl, e⟩]; simp only [if_pos e]
    · rw [if_neg (fun z => e z.2.2), gI_sIk, if_neg (fun z => n10 z.1), gI_sIk, if_neg (fun z => n8 z.1)]; simp only [if_neg e]; exact bn4 j hj
  · rw [gI_sIk, if_neg (fun z => k4 z.1.symm), gI_sIk, if_neg (fun z => k4 z.1.symm), gI_W]
    simp only [va_cpy, Nat.zero_add]
    by_cases e : nx * 10 ≤ j ∧ j < nx * 10 + 10
    · rw [if_pos e, if_pos e]; exact g4 _ (by omega)
    · rw [if_neg e, if_neg e]; exact on4 j hj
  · exact ((Fr.sI S ki i nx (nI x)).trans ((Fr.sI _ kc c nx (nI y)).trans ((Fr.sI _ kb b9 nx b).trans ((Fr.sW _ kn o _).trans ((Fr.sI _ 3 k 5 _).trans (Fr.sI _ 3 k 4 _)))))).mono (fun t a ha w => by
      rcases w with w | w | w | w | w | w
      · exact Or.inr (Or.inl ⟨w.1, by rw [w.2]; exact kq7⟩)
      · exact Or.inr (Or.inr (Or.inl ⟨w.1, by rw [w.2]; exact kq8⟩))
      · exact Or.inr (Or.inr (Or.inr (Or.inl ⟨w.1, by rw [w.2]; exact kq9⟩)))
      · exact Or.inr (Or.inr (Or.inr (Or.inr ⟨w.1, by rw [w.2]; exact kq10⟩)))
      · exact Or.inl w
      · exact Or.inl w) (by decide) (by decide)
end SPS
