/-! A NEW CODE is seen, codes are dropped -/
section SPS
variable {ks : Nat → Nat} {d : Nat} {Q : QP} {S : M9} {q kc kt n L : Nat} {cd tm : Nat → Nat}
theorem sp_seenInit (hq : q ∈ gL S) (hk : gK S q = 6) (hk17 : 17 ≤ kc ∧ 17 ≤ kt ∧ ¬ kc = kt) (hc : gC S + 2 ≤ cCM) (hz : gZ S + 32 ≤ cSM) (h : ∀ S', SeenR S' q kc kt 0 16 (fun _ => 0) (fun _ => 0) → Fr S S' (fun t a => t = 6 ∧ a = q) 2 32 → (∀ t a, SeenA S' q kc kt t a → a ∈ gL S → t = 6 ∧ a = q) → Q (.inl none) S') : WG ks (d + 1) n_X4_init [.ref q] S Q := by
  refine ⟨by simp [cat1, Value.category], by show (1 : Nat) ≤ 1; decide, ?_⟩
  show Run ks (WG ks d) Q tb_X4_init 0 [some (.ref q)] [] S
  simp only [e_X4_init_0, e_X4_init_1, e_X4_init_4, e_X4_init_5, e_X4_init_7, e_X4_init_9, e_X4_init_12, e_X4_init_13, e_X4_init_15, e_X4_init_17, e_X4_init_20, e_X4_init_21, e_X4_init_22, e_X4_init_25, o_const, o_iload, o_aload, o_fload, o_dload, o_istore, o_astore, o_fstore, o_dstore, o_iinc, o_bin, o_div, o_un, o_i2l, o_i2f, o_i2d, o_f2d, o_fdiv, o_ddiv, o_lcmp, o_fcmp, o_dcmp, o_if, o_if2, o_goto, o_dup, o_dupx1, o_dup2, o_pop, o_getI, o_getR, o_putI, o_putR, o_iald, o_iast, o_bald, o_bast, o_zald, o_zast, o_aald, o_aast, o_jald, o_jast, o_dald, o_dast, o_alen, o_castA, o_new, o_newa, o_callv, o_callvN, o_calli, o_calls, o_objinit, o_iret, o_zret, o_fret, o_dret, o_aret, o_vret, o_throw, o_acopy, o_bcopy, o_clone, o_tsw, o_ldcS, o_kval, o_kcoder, o_klen, o_kald, o_tald, o_getSq, o_callk, o_callvH, gl, stl, stl2, pre2, va_rf, Value.category, catS, List.length_cons, List.length_nil, List.map_cons, List.map_nil, List.sum_cons, List.sum_nil, List.take_succ_cons, List.take_zero, List.drop_succ_cons, List.drop_zero, List.reverse_cons, List.reverse_nil, List.nil_append, List.cons_append, true_and, and_true, Nat.reduceAdd, Nat.reduceLT, Nat.reduceLeDiff, hq, hk, gL_sW, gL_sI, gL_sR, gL_sC, gL_nW, gK_sW, gK_sI, gK_sR, gK_sC, gK_nW, gN_sW, gN_sI, gN_sR, gN_sC, gN_nW, gC_sW, gC_sI, gC_sR, gC_sC, gC_nW, gZ_sW, gZ_sI, gZ_sR, gZ_sC, gZ_nW, cl_16]
  refine ⟨by decide, by omega, by omega, kc, hk17.1, fun c hcn => ?_⟩
  have n1 : ¬ q = c := fun e => hcn (e ▸ hq)
  simp only [hq, hk, if_neg n1, List.mem_append, true_or, true_and]
  refine ⟨by decide, by omega, by omega, kt, hk17.2.1, fun t htn => ?_⟩
  simp only [List.mem_append, List.mem_singleton, not_or] at htn
  have n2 : ¬ q = t := fun e => htn.1 (e ▸ hq)
  have n3 : ¬ c = t := fun e => htn.2 e.symm
  have k6 : ¬ 6 = kc := by omega
  have k7 : ¬ 6 = kt := by omega
  simp only [hq, hk, if_neg n1, if_neg n2, List.mem_append, true_or, true_and]
  refine ⟨narI 0, h _ ⟨c, t, ?_⟩ ?_ ?_⟩
  · have m1 : q ∈ (gL S ++ [c]) ++ [t] := List.mem_append_left _ (List.mem_append_left _ hq)
    have m2 : c ∈ (gL S ++ [c]) ++ [t] := List.mem_append_left _ (List.mem_append_right _ List.mem_cons_self)
    have m3 : t ∈ (gL S ++ [c]) ++ [t] := List.mem_append_right _ List.mem_cons_self
    refine ⟨m1, ?_, ?_, by omega, ⟨by omega, by omega⟩, hk17, ?_, ?_, ⟨m2, ?_, ?_, fun k hk => absurd hk (by omega)⟩, ⟨m3, ?_, ?_, fun k hk => absurd hk (by omega)⟩⟩
    · simp only [gL_sW, gL_sI, gL_sR, gL_sC, gL_nW, gK_sW, gK_sI, gK_sR, gK_sC, gK_nW, gN_sW, gN_sI, gN_sR, gN_sC, gN_nW, gC_sW, gC_sI, gC_sR, gC_sC, gC_nW, gZ_sW, gZ_sI, gZ_sR, gZ_sC, gZ_nW, if_neg n1, if_neg n2]; exact hk
    · rw [gI_sIk, if_pos ⟨rfl, rfl, rfl⟩, nI_0]
    · simp [gR_sI, gR_sRk, gR_sW, gR_nWk, k6, k7]
    · simp [gR_sI, gR_sRk, gR_sW, gR_nWk, k6, k7]
    · simp [gL_sW, gL_sI, gL_sR, gL_sC, gL_nW, gK_sW, gK_sI, gK_sR, gK_sC, gK_nW, gN_sW, gN_sI, gN_sR, gN_sC, gN_nW, gC_sW, gC_sI, gC_sR, gC_sC, gC_nW, gZ_sW, gZ_sI, gZ_sR, gZ_sC, gZ_nW, n3]
    · simp [gL_sW, gL_sI, gL_sR, gL_sC, gL_nW, gK_sW, gK_sI, gK_sR, gK_sC, gK_nW, gN_sW, gN_sI, gN_sR, gN_sC, gN_nW, gC_sW, gC_sI, gC_sR, gC_sC, gC_nW, gZ_sW, gZ_sI, gZ_sR, gZ_sC, gZ_nW, n3]
    · simp [gL_sW, gL_sI, gL_sR, gL_sC, gL_nW, gK_sW, gK_sI, gK_sR, gK_sC, gK_nW, gN_sW, gN_sI, gN_sR, gN_sC, gN_nW, gC_sW, gC_sI, gC_sR, gC_sC, gC_nW, gZ_sW, gZ_sI, gZ_sR, gZ_sC, gZ_nW]
    · simp [gL_sW, gL_sI, gL_sR, gL_sC, gL_nW, gK_sW, gK_sI, gK_sR, gK_sC, gK_nW, gN_sW, gN_sI, gN_sR, gN_sC, gN_nW, gC_sW, gC_sI, gC_sR, gC_sC, gC_nW, gZ_sW, gZ_sI, gZ_sR, gZ_sC, gZ_nW]
  · exact ((Fr.nW S kc c 16 16 hcn).trans ((Fr.sR _ 6 q 0 (some c)).trans ((Fr.nW _ kt t 16 16 (by simp only [gL_sW, gL_sI, gL_sR, gL_sC, gL_nW, gK_sW, gK_sI, gK_sR, gK_sC, gK_nW, gN_sW, gN_sI, gN_sR, gN_sC, gN_nW, gC_sW, gC_sI, gC_sR, gC_sC, gC_nW, gZ_sW, gZ_sI, gZ_sR, gZ_sC, gZ_nW, List.mem_append, List.mem_singleton, not_or]; exact htn)).trans ((Fr.sR _ 6 q 1 (some t)).trans (Fr.sI _ 6 q 2 0))))).mono (fun t' a' _ w => by
      rcases w with w | w | w | w | w
      · exact w.elim
      · exact w
      · exact w.elim
      · exact w
      · exact w) (by decide) (by decide)
  · intro t' a' hA hin
    rcases hA with w | ⟨-, w⟩ | ⟨-, w⟩
    · exact w
    · simp [gR_sI, gR_sRk, gR_sW, gR_nWk, k6, k7] at w
      exact absurd (w ▸ hin) hcn
    · simp [gR_sI, gR_sRk, gR_sW, gR_nWk, k6, k7] at w
      exact absurd (w ▸ hin) htn.1
end SPS
