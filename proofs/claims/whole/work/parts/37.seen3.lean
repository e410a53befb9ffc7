/-! A NEW CODE is seen, codes are dropped -/
def sAdd (n : Nat) (cd tm : Nat → Nat) (x : Nat) : Option Nat → Nat × (Nat → Nat) × (Nat → Nat)
  | some k => (n, cd, fun j => if j = k then tm k + 1 else tm j)
  | none => (n + 1, fun j => if j = n then x else cd j, fun j => if j = n then 1 else tm j)
section SPS
variable {ks : Nat → Nat} {d : Nat} {Q : QP} {S : M9} {q kc kt n L : Nat} {cd tm : Nat → Nat}
theorem sp_seenInit (hq : q ∈ gL S) (hk : gK S q = 6) (hk17 : 17 ≤ kc ∧ 17 ≤ kt ∧ ¬ kc = kt) (hc : gC S + 2 ≤ cCM) (hz : gZ S + 32 ≤ cSM) (h : ∀ S', SeenR S' q kc kt 0 16 (fun _ => 0) (fun _ => 0) → Fr S S' (fun t a => t = 6 ∧ a = q) 2 32 → (∀ t a, SeenA S' q kc kt t a → a ∈ gL S → t = 6 ∧ a = q) → Q (.inl none) S') : WG ks (d + 1) n_X4_init [.ref q] S Q := by
  refine ⟨by simp [cat1, Value.category], by show (1 : Nat) ≤ 1; decide, ?_⟩
  show Run ks (WG ks d) Q tb_X4_init 0 [some (.ref q)] [] S
  simp only [e_X4_init_0, e_X4_init_1, e_X4_init_4, e_X4_init_5, e_X4_init_7, e_X4_init_9, e_X4_init_12, e_X4_init_13, e_X4_init_15, e_X4_init_17, e_X4_init_20, e_X4_init_21, e_X4_init_22, e_X4_init_25, o_const, o_iload, o_aload, o_fload, o_dload, o_istore, o_astore, o_fstore, o_dstore, o_iinc, o_bin, o_div, o_un, o_i2l, o_i2f, o_i2d, o_f2d, o_fdiv, o_ddiv, o_lcmp, o_fcmp, o_dcmp, o_if, o_if2, o_goto, o_dup, o_dupx1, o_dup2, o_pop, o_getI, o_getR, o_putI, o_putR, o_iald, o_iast, o_bald, o_bast, o_zald, o_zast, o_aald, o_aast, o_jald, o_jast, o_dald, o_dast, o_alen, o_castA, o_new, o_newa, o_callv, o_callvN, o_calli, o_calls, o_objinit, o_iret, o_zret, o_fret, o_dret, o_aret, o_vret, o_throw, o_acopy, o_bcopy, o_clone, o_tsw, o_ldcS, o_kval, o_kcoder, o_klen, o_kald, o_tald, o_getSq, o_callk, o_callvH, gl, stl, stl2, pre2, va_rf, Value.category, catS, List.length_cons, List.length_nil, List.map_cons, List.map_nil, List.sum_cons, List.sum_nil, List.take_succ_cons, List.take_zero, List.drop_succ_cons, List.drop_zero, List.reverse_cons, List.reverse_nil, List.nil_append, List.cons_append, true_and, and_true, Nat.reduceAdd, Nat.reduceLT, Nat.reduceLeDiff, hq, hk, gL_sW, gL_sI, gL_sR, gL_sC, gL_nW, gK_sW, gK_sI, gK_sR, gK_sC, gK_nW, gN_sW, gN_sI, gN_sR, gN_sC, gN_nW, gC_sW, gC_sI, gC_sR, gC_sC, gC_nW, gZ_sW, gZ_sI, gZ_sR, gZ_sC, gZ_nW, cl_16]
  refine ⟨by decide, by omega, by omega, kc, hk17.1, fun c hcn => ?_⟩
  have n1 : ¬ q = c := fun e => hcn (e ▸ hq)
  simp only [hq, hk, if_neg n1, List.mem_append, true_or, true_and]
  refine ⟨by decide, by omega, by omega, kt, hk17.2.1, fun t htn => ?_⟩
  simp only [List.mem_append, List.mem_singleton, not_or] at htn
  have n2 : ¬ q = t := fun e => htn.1 (e ▸ hq)
  have n3 : ¬ c = t := fun e => htn.2 e.symm
  have k6 : ¬ 6 = kc := by omega
  have k7 : ¬ 6 = kt := by omega
  simp only [hq, hk, if_neg n1, if_neg n2, List.mem_append, true_or, true_and]
  refine ⟨narI 0, h _ ⟨c, t, ?_⟩ ?_ ?_⟩
  · have m1 : q ∈ (gL S ++ [c]) ++ [t] := List.mem_append_left _ (List.mem_append_left _ hq)
    have m2 : c ∈ (gL S ++ [c]) ++ [t] := List.mem_append_left _ (List.mem_append_right _ List.mem_cons_self)
    have m3 : t ∈ (gL S ++ [c]) ++ [t] := List.mem_append_right _ List.mem_cons_self
    refine ⟨m1, ?_, ?_, by omega, ⟨by omega, by omega⟩, hk17, ?_, ?_, ⟨m2, ?_, ?_, fun k hk => absurd hk (by omega)⟩, ⟨m3, ?_, ?_, fun k hk => absurd hk (by omega)⟩⟩
    · simp only [gL_sW, gL_sI, gL_sR, gL_sC, gL_nW, gK_sW, gK_sI, gK_sR, gK_sC, gK_nW, gN_sW, gN_sI, gN_sR, gN_sC, gN_nW, gC_sW, gC_sI, gC_sR, gC_sC, gC_nW, gZ_sW, gZ_sI, gZ_sR, gZ_sC, gZ_nW, if_neg n1, if_neg n2]; exact hk
    · rw [gI_sIk, if_pos ⟨rfl, rfl, rfl⟩, nI_0]
    · simp [gR_sI, gR_sRk, gR_sW, gR_nWk, k6, k7]
    · simp [gR_sI, gR_sRk, gR_sW, gR_nWk, k6, k7]
    · simp [gL_sW, gL_sI, gL_sR, gL_sC, gL_nW, gK_sW, gK_sI, gK_sR, gK_sC, gK_nW, gN_sW, gN_sI, gN_sR, gN_sC, gN_nW, gC_sW, gC_sI, gC_sR, gC_sC, gC_nW, gZ_sW, gZ_sI, gZ_sR, gZ_sC, gZ_nW, n3]
    · simp [gL_sW, gL_sI, gL_sR, gL_sC, gL_nW, gK_sW, gK_sI, gK_sR, gK_sC, gK_nW, gN_sW, gN_sI, gN_sR, gN_sC, gN_nW, gC_sW, gC_sI, gC_sR, gC_sC, gC_nW, gZ_sW, gZ_sI, gZ_sR, gZ_sC, gZ_nW, n3]
    · simp [gL_sW, gL_sI, gL_sR, gL_sC, gL_nW, gK_sW, gK_sI, gK_sR, gK_sC, gK_nW, gN_sW, gN_sI, gN_sR, gN_sC, gN_nW, gC_sW, gC_sI, gC_sR, gC_sC, gC_nW, gZ_sW, gZ_sI, gZ_sR, gZ_sC, gZ_nW]
    · simp [gL_sW, gL_sI, gL_sR, gL_sC, gL_nW, gK_sW, gK_sI, gK_sR, gK_sC, gK_nW, gN_sW, gN_sI, gN_sR, gN_sC, gN_nW, gC_sW, gC_sI, gC_sR, gC_sC, gC_nW, gZ_sW, gZ_sI, gZ_sR, gZ_sC, gZ_nW]
  · exact ((Fr.nW S kc c 16 16 hcn).trans ((Fr.sR _ 6 q 0 (some c)).trans ((Fr.nW _ kt t 16 16 (by simp only [gL_sW, gL_sI, gL_sR, gL_sC, gL_nW, gK_sW, gK_sI, gK_sR, gK_sC, gK_nW, gN_sW, gN_sI, gN_sR, gN_sC, gN_nW, gC_sW, gC_sI, gC_sR, gC_sC, gC_nW, gZ_sW, gZ_sI, gZ_sR, gZ_sC, gZ_nW, List.mem_append, List.mem_singleton, not_or]; exact htn)).trans ((Fr.sR _ 6 q 1 (some t)).trans (Fr.sI _ 6 q 2 0))))).mono (fun t' a' _ w => by
      rcases w with w | w | w | w | w
      · exact w.elim
      · exact w
      · exact w.elim
      · exact w
      · exact w) (by decide) (by decide)
  · intro t' a' hA hin
    rcases hA with w | ⟨-, w⟩ | ⟨-, w⟩
    · exact w
    · simp [gR_sI, gR_sRk, gR_sW, gR_nWk, k6, k7] at w
      exact absurd (w ▸ hin) hcn
    · simp [gR_sI, gR_sRk, gR_sW, gR_nWk, k6, k7] at w
      exact absurd (w ▸ hin) htn.1
theorem sp_seenAdd (hR : SeenR S q kc kt n L cd tm) {x : Nat} (hn : n + 1 ≤ 10000) (hc : gC S + 2 ≤ cCM) (hz : gZ S + 2 * max (n + 1) (2 * L) ≤ cSM)
    (h : ∀ S' L', SeenR S' q kc kt (sAdd n cd tm x (plc cd (nI x) 0 n)).1 L' (sAdd n cd tm x (plc cd (nI x) 0 n)).2.1 (sAdd n cd tm x (plc cd (nI x) 0 n)).2.2 → L ≤ L' → Fr S S' (SeenA S q kc kt) 2 (4 * (L' - L)) → (∀ t a, SeenA S' q kc kt t a → a ∈ gL S → SeenA S q kc kt t a) → Q (.inl none) S') : WG ks (d + 4) n_X4_add [.ref q, .int (nI x)] S Q := by
  refine ⟨by simp [cat1, Value.category], by show (2 : Nat) ≤ 3; decide, ?_⟩
  show Run ks (WG ks (d + 3)) Q tb_X4_add 0 [some (.ref q), some (.int (nI x)), none] [] S
  have hR0 := hR
  obtain ⟨c6, t6, sq1, sq2, sq3, sq4, sq5, sq6, sq7, sq8, ⟨sc1, sc2, sc3, sc4⟩, ⟨st1, st2, st3, st4⟩⟩ := hR0
  simp only [e_X4_add_0, e_X4_add_1, e_X4_add_2, e_X4_add_5, e_X4_add_6, e_X4_add_7, e_X4_add_10, e_X4_add_11, e_X4_add_14, e_X4_add_15, e_X4_add_16, e_X4_add_17, e_X4_add_18, e_X4_add_19, e_X4_add_20, e_X4_add_21, e_X4_add_22, e_X4_add_23, e_X4_add_26, e_X4_add_27, e_X4_add_28, e_X4_add_31, e_X4_add_32, e_X4_add_35, e_X4_add_36, e_X4_add_39, e_X4_add_40, e_X4_add_41, e_X4_add_42, e_X4_add_45, e_X4_add_46, e_X4_add_49, e_X4_add_50, e_X4_add_51, e_X4_add_52, e_X4_add_53, e_X4_add_56, e_X4_add_57, e_X4_add_58, e_X4_add_61, o_const, o_iload, o_aload, o_fload, o_dload, o_istore, o_astore, o_fstore, o_dstore, o_iinc, o_bin, o_div, o_un, o_i2l, o_i2f, o_i2d, o_f2d, o_fdiv, o_ddiv, o_lcmp, o_fcmp, o_dcmp, o_if, o_if2, o_goto, o_dup, o_dupx1, o_dup2, o_pop, o_getI, o_getR, o_putI, o_putR, o_iald, o_iast, o_bald, o_bast, o_zald, o_zast, o_aald, o_aast, o_jald, o_jast, o_dald, o_dast, o_alen, o_castA, o_new, o_newa, o_callv, o_callvN, o_calli, o_calls, o_objinit, o_iret, o_zret, o_fret, o_dret, o_aret, o_vret, o_throw, o_acopy, o_bcopy, o_clone, o_tsw, o_ldcS, o_kval, o_kcoder, o_klen, o_kald, o_tald, o_getSq, o_callk, o_callvH, gl, stl, stl2, pre2, va_rf, Value.category, catS, List.length_cons, List.length_nil, List.map_cons, List.map_nil, List.sum_cons, List.sum_nil, List.take_succ_cons, List.take_zero, List.drop_succ_cons, List.drop_zero, List.reverse_cons, List.reverse_nil, List.nil_append, List.cons_append, true_and, and_true, Nat.reduceAdd, Nat.reduceLT, Nat.reduceLeDiff, sq1, sq2, sq3, sq7, sq8, sc1, sc2, sc3, st1, st2, st3]
  refine ⟨⟨q, _, rfl, rfl, sq1, sq2⟩, sp_placeOf hR ?_⟩
  simp only [behind, e_X4_add_0, e_X4_add_1, e_X4_add_2, e_X4_add_5, e_X4_add_6, e_X4_add_7, e_X4_add_10, e_X4_add_11, e_X4_add_14, e_X4_add_15, e_X4_add_16, e_X4_add_17, e_X4_add_18, e_X4_add_19, e_X4_add_20, e_X4_add_21, e_X4_add_22, e_X4_add_23, e_X4_add_26, e_X4_add_27, e_X4_add_28, e_X4_add_31, e_X4_add_32, e_X4_add_35, e_X4_add_36, e_X4_add_39, e_X4_add_40, e_X4_add_41, e_X4_add_42, e_X4_add_45, e_X4_add_46, e_X4_add_49, e_X4_add_50, e_X4_add_51, e_X4_add_52, e_X4_add_53, e_X4_add_56, e_X4_add_57, e_X4_add_58, e_X4_add_61, o_const, o_iload, o_aload, o_fload, o_dload, o_istore, o_astore, o_fstore, o_dstore, o_iinc, o_bin, o_div, o_un, o_i2l, o_i2f, o_i2d, o_f2d, o_fdiv, o_ddiv, o_lcmp, o_fcmp, o_dcmp, o_if, o_if2, o_goto, o_dup, o_dupx1, o_dup2, o_pop, o_getI, o_getR, o_putI, o_putR, o_iald, o_iast, o_bald, o_bast, o_zald, o_zast, o_aald, o_aast, o_jald, o_jast, o_dald, o_dast, o_alen, o_castA, o_new, o_newa, o_callv, o_callvN, o_calli, o_calls, o_objinit, o_iret, o_zret, o_fret, o_dret, o_aret, o_vret, o_throw, o_acopy, o_bcopy, o_clone, o_tsw, o_ldcS, o_kval, o_kcoder, o_klen, o_kald, o_tald, o_getSq, o_callk, o_callvH, gl, stl, stl2, pre2, va_rf, Value.category, catS, List.length_cons, List.length_nil, List.map_cons, List.map_nil, List.sum_cons, List.sum_nil, List.take_succ_cons, List.take_zero, List.drop_succ_cons, List.drop_zero, List.reverse_cons, List.reverse_nil, List.nil_append, List.cons_append, true_and, and_true, Nat.reduceAdd, Nat.reduceLT, Nat.reduceLeDiff, sq1, sq2, sq3, sq7, sq8, sc1, sc2, sc3, st1, st2, st3]
  have k6 : ¬ 6 = kc := by omega
  have k7 : ¬ 6 = kt := by omega
  cases e : plc cd (nI x) 0 n with
  | some k =>
    have hk := plc_lt _ _ _ e
    rw [e] at h
    simp only [plI, nI_clamp (show k < 2 ^ 31 by omega), st4 k (by omega), nI_1]
    refine ⟨fun c => absurd c (nI_pos (by omega)), fun _ => ⟨sq6.2.1, vp_in_nI (by omega) (by omega), sq6.2.1, vp_in_nI (by omega) (by omega), h _ L ⟨c6, t6, sq1, sq2, ?_, sq4, sq5, sq6, sq7, sq8, ⟨sc1, sc2, sc3, fun j hj => ?_⟩, ⟨st1, st2, st3, fun j hj => ?_⟩⟩ (Nat.le_refl _) ?_ (fun _ _ hA _ => hA)⟩⟩
    · rw [gI_sIk, if_neg (fun z => k7 z.1)]; exact sq3
    · rw [gI_sIk, if_neg (fun z => sq6.2.2 z.1)]; exact sc4 j hj
    · rw [gI_sIk]
      by_cases z : j = k
      · rw [if_pos ⟨rfl, rfl, z⟩]; simp [sAdd, z]
      · rw [if_neg (fun w => z w.2.2)]; simp [sAdd, z, st4 j hj]
    · exact (Fr.sI S kt t6 k _).mono (fun t a _ w => Or.inr (Or.inr ⟨w.1, by rw [w.2]; exact sq8⟩)) (by omega) (by omega)
  | none =>
    rw [e] at h
    refine ⟨fun _ => ⟨⟨q, _, rfl, rfl, sq1, sq2⟩, ?_⟩, fun c => absurd (show plI none < 0 by decide) c⟩
    rw [nI_1]
    refine sp_makeRoomFor hR (by omega) hc hz (fun S1 L1 hR1 hp1 hL1 hL2 hF1 hA1 => ?_)
    have hR2 := hR1
    obtain ⟨c7, t7, sr1, sr2, sr3, sr4, sr5, sr6, sr7, sr8, ⟨su1, su2, su3, su4⟩, ⟨sv1, sv2, sv3, sv4⟩⟩ := hR2
    simp only [behind, e_X4_add_0, e_X4_add_1, e_X4_add_2, e_X4_add_5, e_X4_add_6, e_X4_add_7, e_X4_add_10, e_X4_add_11, e_X4_add_14, e_X4_add_15, e_X4_add_16, e_X4_add_17, e_X4_add_18, e_X4_add_19, e_X4_add_20, e_X4_add_21, e_X4_add_22, e_X4_add_23, e_X4_add_26, e_X4_add_27, e_X4_add_28, e_X4_add_31, e_X4_add_32, e_X4_add_35, e_X4_add_36, e_X4_add_39, e_X4_add_40, e_X4_add_41, e_X4_add_42, e_X4_add_45, e_X4_add_46, e_X4_add_49, e_X4_add_50, e_X4_add_51, e_X4_add_52, e_X4_add_53, e_X4_add_56, e_X4_add_57, e_X4_add_58, e_X4_add_61, o_const, o_iload, o_aload, o_fload, o_dload, o_istore, o_astore, o_fstore, o_dstore, o_iinc, o_bin, o_div, o_un, o_i2l, o_i2f, o_i2d, o_f2d, o_fdiv, o_ddiv, o_lcmp, o_fcmp, o_dcmp, o_if, o_if2, o_goto, o_dup, o_dupx1, o_dup2, o_pop, o_getI, o_getR, o_putI, o_putR, o_iald, o_iast, o_bald, o_bast, o_zald, o_zast, o_aald, o_aast, o_jald, o_jast, o_dald, o_dast, o_alen, o_castA, o_new, o_newa, o_callv, o_callvN, o_calli, o_calls, o_objinit, o_iret, o_zret, o_fret, o_dret, o_aret, o_vret, o_throw, o_acopy, o_bcopy, o_clone, o_tsw, o_ldcS, o_kval, o_kcoder, o_klen, o_kald, o_tald, o_getSq, o_callk, o_callvH, gl, stl, stl2, pre2, va_rf, Value.category, catS, List.length_cons, List.length_nil, List.map_cons, List.map_nil, List.sum_cons, List.sum_nil, List.take_succ_cons, List.take_zero, List.drop_succ_cons, List.drop_zero, List.reverse_cons, List.reverse_nil, List.nil_append, List.cons_append, true_and, and_true, Nat.reduceAdd, Nat.reduceLT, Nat.reduceLeDiff, sr1, sr2, sr3, sr7, sr8, su1, su2, su3, sv1, sv2, sv3, gL_sW, gL_sI, gL_sR, gL_sC, gL_nW, gK_sW, gK_sI, gK_sR, gK_sC, gK_nW, gN_sW, gN_sI, gN_sR, gN_sC, gN_nW, gC_sW, gC_sI, gC_sR, gC_sC, gC_nW, gZ_sW, gZ_sI, gZ_sR, gZ_sC, gZ_nW, gI_sIk, gR_sI, k6, k7, false_and, if_false, nI_1, narI]
    have hcl : (nI n).toNatClampNeg = n := nI_clamp (by omega)
    rw [hcl]
    have k8 : ¬ kt = kc := fun e => sq6.2.2 e.symm
    refine ⟨sq6.1, vp_in_nI (by omega) (by omega), sq6.2.1, vp_in_nI (by omega) (by omega), h _ L1 ⟨c7, t7, sr1, sr2, ?_, hp1, sr5, sr6, sr7, sr8, ⟨su1, su2, su3, fun j hj => ?_⟩, ⟨sv1, sv2, sv3, fun j hj => ?_⟩⟩ hL1 ?_ (fun t a hA hin => hA1 t a hA hin)⟩
    · rw [gI_sIk, if_pos ⟨rfl, rfl, rfl⟩]; rfl
    · rw [gI_sIk, if_neg (fun z => k6 z.1.symm), gI_sIk, if_neg (fun z => sq6.2.2 z.1), gI_sIk]
      by_cases z : j = n
      · rw [if_pos ⟨rfl, rfl, z⟩]; simp [sAdd, z]
      · rw [if_neg (fun w => z w.2.2)]
        have hj' : j < n + 1 := hj
        simp [sAdd, z, su4 j (by omega)]
    · rw [gI_sIk, if_neg (fun z => k7 z.1.symm), gI_sIk]
      by_cases z : j = n
      · rw [if_pos ⟨rfl, rfl, z⟩]; simp [sAdd, z]; rfl
      · rw [if_neg (fun w => z w.2.2), gI_sIk, if_neg (fun w => k8 w.1)]
        have hj' : j < n + 1 := hj
        simp [sAdd, z, sv4 j (by omega)]
    · exact (hF1.trans ((Fr.sI S1 kc c7 n (nI x)).trans ((Fr.sI _ kt t7 n 1).trans (Fr.sI _ 6 q 2 _)))).mono (fun t a ha w => by
        rcases w with w | w | w | w
        · exact Or.inl w
        · exact hA1 t a (Or.inr (Or.inl ⟨w.1, by rw [w.2]; exact sr7⟩)) ha
        · exact hA1 t a (Or.inr (Or.inr ⟨w.1, by rw [w.2]; exact sr8⟩)) ha
        · exact Or.inl w) (by omega) (by omega)
end SPS
