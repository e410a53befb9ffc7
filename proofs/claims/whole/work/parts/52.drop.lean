/-! THE CODES SEEN, dropped below -/
def drp (cd tm : Nat → Nat) (l : Int32) : Nat → Nat × (Nat → Nat) × (Nat → Nat)
  | 0 => (0, cd, tm)
  | k + 1 =>
    if nI ((drp cd tm l k).2.2 k) < l then drp cd tm l k
    else ((drp cd tm l k).1 + 1, fun j => if j = (drp cd tm l k).1 then (drp cd tm l k).2.1 k else (drp cd tm l k).2.1 j, fun j => if j = (drp cd tm l k).1 then (drp cd tm l k).2.2 k else (drp cd tm l k).2.2 j)
theorem drp_le {cd tm : Nat → Nat} {l : Int32} : ∀ k, (drp cd tm l k).1 ≤ k := by
  intro k
  induction k with
  | zero => exact Nat.le_refl _
  | succ k ih =>
    simp only [drp]
    split
    · omega
    · simp only []; omega
theorem drp_lt {cd tm : Nat → Nat} {l : Int32} {k : Nat} (c : nI ((drp cd tm l k).2.2 k) < l) : drp cd tm l (k + 1) = drp cd tm l k := if_pos c
theorem drp_ge {cd tm : Nat → Nat} {l : Int32} {k : Nat} (c : ¬ nI ((drp cd tm l k).2.2 k) < l) : drp cd tm l (k + 1) = ((drp cd tm l k).1 + 1, fun j => if j = (drp cd tm l k).1 then (drp cd tm l k).2.1 k else (drp cd tm l k).2.1 j, fun j => if j = (drp cd tm l k).1 then (drp cd tm l k).2.2 k else (drp cd tm l k).2.2 j) := if_neg c
section SPS
variable {ks : Nat → Nat} {d : Nat} {Q : QP} {S : M9} {q kc kt n L : Nat} {cd tm : Nat → Nat}
theorem sp_dropBelow_lp {l : Int32} (h : ∀ S', SeenR S' q kc kt (drp cd tm l n).1 L (drp cd tm l n).2.1 (drp cd tm l n).2.2 → Fr S S' (SeenA S q kc kt) 0 0 → gR S' 6 q = gR S 6 q → Q (.inl (some (.int (nI n - nI (drp cd tm l n).1)))) S') :
    ∀ r m S', m + r = n → SeenR S' q kc kt n L (drp cd tm l m).2.1 (drp cd tm l m).2.2 → Fr S S' (SeenA S q kc kt) 0 0 → gR S' 6 q = gR S 6 q → Run ks (WG ks d) Q tb_X4_dropBelow 4 [some (.ref q), some (.int l), some (.int (nI (drp cd tm l m).1)), some (.int (nI m))] [] S' := by
  intro r
  induction r with
  | zero =>
    intro m S' hm hR hF hg
    have hRc := hR
    obtain ⟨c6, t6, sq1, sq2, sq3, sq4, sq5, sq6, sq7, sq8, ⟨sc1, sc2, sc3, sc4⟩, ⟨st1, st2, st3, st4⟩⟩ := hRc
    have e : m = n := by omega
    subst e
    rw [e_X4_dropBelow_4]
    simp only [e_X4_dropBelow_0, e_X4_dropBelow_1, e_X4_dropBelow_2, e_X4_dropBelow_3, e_X4_dropBelow_5, e_X4_dropBelow_6, e_X4_dropBelow_9, e_X4_dropBelow_12, e_X4_dropBelow_13, e_X4_dropBelow_16, e_X4_dropBelow_17, e_X4_dropBelow_18, e_X4_dropBelow_19, e_X4_dropBelow_22, e_X4_dropBelow_23, e_X4_dropBelow_26, e_X4_dropBelow_27, e_X4_dropBelow_28, e_X4_dropBelow_31, e_X4_dropBelow_32, e_X4_dropBelow_33, e_X4_dropBelow_34, e_X4_dropBelow_35, e_X4_dropBelow_38, e_X4_dropBelow_39, e_X4_dropBelow_40, e_X4_dropBelow_43, e_X4_dropBelow_44, e_X4_dropBelow_45, e_X4_dropBelow_46, e_X4_dropBelow_49, e_X4_dropBelow_52, e_X4_dropBelow_55, e_X4_dropBelow_56, e_X4_dropBelow_59, e_X4_dropBelow_60, e_X4_dropBelow_61, e_X4_dropBelow_62, e_X4_dropBelow_63, e_X4_dropBelow_64, e_X4_dropBelow_67, e_X4_dropBelow_68, o_const, o_iload, o_aload, o_fload, o_dload, o_istore, o_astore, o_fstore, o_dstore, o_iinc, o_bin, o_div, o_un, o_i2l, o_i2f, o_i2d, o_f2d, o_fdiv, o_ddiv, o_lcmp, o_fcmp, o_dcmp, o_if, o_if2, o_goto, o_dup, o_dupx1, o_dup2, o_pop, o_getI, o_getR, o_putI, o_putR, o_iald, o_iast, o_bald, o_bast, o_zald, o_zast, o_aald, o_aast, o_jald, o_jast, o_dald, o_dast, o_alen, o_castA, o_new, o_newa, o_callv, o_callvN, o_calli, o_calls, o_objinit, o_iret, o_zret, o_fret, o_dret, o_aret, o_vret, o_throw, o_acopy, o_bcopy, o_clone, o_tsw, o_ldcS, o_kval, o_kcoder, o_klen, o_kald, o_tald, o_getSq, o_callk, o_callvH, gl, stl, stl2, pre2, va_rf, Value.category, catS, List.length_cons, List.length_nil, List.map_cons, List.map_nil, List.sum_cons, List.sum_nil, List.take_succ_cons, List.take_zero, List.drop_succ_cons, List.drop_zero, List.reverse_cons, List.reverse_nil, List.nil_append, List.cons_append, true_and, and_true, if_true, Nat.reduceAdd, Nat.reduceLT, Nat.reduceLeDiff, sq1, sq2, sq3, sq7, sq8, sc1, sc2, sc3, st1, st2, st3, nI_leI (show m < 2 ^ 31 by omega) (show m < 2 ^ 31 by omega), narI]
    refine ⟨fun _ => ?_, fun c => (c (Nat.le_refl _)).elim⟩
    have F := Fr.sI S' 6 q 2 (nI (drp cd tm l m).1)
    have hle := drp_le (cd := cd) (tm := tm) (l := l) m
    have hn : ∀ t a, 17 ≤ t → ¬ (t = 6 ∧ a = q) := fun t a h1 w => by omega
    refine h _ ⟨c6, t6, (F.1 q sq1).1, (F.1 q sq1).2.1.trans sq2, by rw [gI_sIk, if_pos ⟨rfl, rfl, rfl⟩], by omega, sq5, sq6, by rw [gR_sI]; exact sq7, by rw [gR_sI]; exact sq8, ⟨(F.1 c6 sc1).1, (F.1 c6 sc1).2.1.trans sc2, (F.1 c6 sc1).2.2.trans sc3, fun j hj => ?_⟩, ⟨(F.1 t6 st1).1, (F.1 t6 st1).2.1.trans st2, (F.1 t6 st1).2.2.trans st3, fun j hj => ?_⟩⟩ ((hF.trans F).mono (fun t a _ w => w.elim id (fun w => Or.inl w)) (by decide) (by decide)) (by rw [gR_sI]; exact hg)
    · rw [(F.2.1 kc c6 sc1 (hn _ _ sq6.1)).1]; exact sc4 j (by omega)
    · rw [(F.2.1 kt t6 st1 (hn _ _ sq6.2.1)).1]; exact st4 j (by omega)
  | succ r ih =>
    intro m S' hm hR hF hg
    have hRc := hR
    obtain ⟨c6, t6, sq1, sq2, sq3, sq4, sq5, sq6, sq7, sq8, ⟨sc1, sc2, sc3, sc4⟩, ⟨st1, st2, st3, st4⟩⟩ := hRc
    have hle := drp_le (cd := cd) (tm := tm) (l := l) m
    obtain ⟨s61, s62, s63⟩ := sq6
    have k1 : ¬ 6 = kc := by omega
    have k2 : ¬ 6 = kt := by omega
    have k3 : ¬ kt = kc := fun e => s63 e.symm
    have hcl : (nI m).toNatClampNeg = m := nI_clamp (by omega)
    have hcl2 : (nI (drp cd tm l m).1).toNatClampNeg = (drp cd tm l m).1 := nI_clamp (by omega)
    rw [e_X4_dropBelow_4]
    simp only [e_X4_dropBelow_0, e_X4_dropBelow_1, e_X4_dropBelow_2, e_X4_dropBelow_3, e_X4_dropBelow_5, e_X4_dropBelow_6, e_X4_dropBelow_9, e_X4_dropBelow_12, e_X4_dropBelow_13, e_X4_dropBelow_16, e_X4_dropBelow_17, e_X4_dropBelow_18, e_X4_dropBelow_19, e_X4_dropBelow_22, e_X4_dropBelow_23, e_X4_dropBelow_26, e_X4_dropBelow_27, e_X4_dropBelow_28, e_X4_dropBelow_31, e_X4_dropBelow_32, e_X4_dropBelow_33, e_X4_dropBelow_34, e_X4_dropBelow_35, e_X4_dropBelow_38, e_X4_dropBelow_39, e_X4_dropBelow_40, e_X4_dropBelow_43, e_X4_dropBelow_44, e_X4_dropBelow_45, e_X4_dropBelow_46, e_X4_dropBelow_49, e_X4_dropBelow_52, e_X4_dropBelow_55, e_X4_dropBelow_56, e_X4_dropBelow_59, e_X4_dropBelow_60, e_X4_dropBelow_61, e_X4_dropBelow_62, e_X4_dropBelow_63, e_X4_dropBelow_64, e_X4_dropBelow_67, e_X4_dropBelow_68, o_const, o_iload, o_aload, o_fload, o_dload, o_istore, o_astore, o_fstore, o_dstore, o_iinc, o_bin, o_div, o_un, o_i2l, o_i2f, o_i2d, o_f2d, o_fdiv, o_ddiv, o_lcmp, o_fcmp, o_dcmp, o_if, o_if2, o_goto, o_dup, o_dupx1, o_dup2, o_pop, o_getI, o_getR, o_putI, o_putR, o_iald, o_iast, o_bald, o_bast, o_zald, o_zast, o_aald, o_aast, o_jald, o_jast, o_dald, o_dast, o_alen, o_castA, o_new, o_newa, o_callv, o_callvN, o_calli, o_calls, o_objinit, o_iret, o_zret, o_fret, o_dret, o_aret, o_vret, o_throw, o_acopy, o_bcopy, o_clone, o_tsw, o_ldcS, o_kval, o_kcoder, o_klen, o_kald, o_tald, o_getSq, o_callk, o_callvH, gl, stl, stl2, pre2, va_rf, Value.category, catS, List.length_cons, List.length_nil, List.map_cons, List.map_nil, List.sum_cons, List.sum_nil, List.take_succ_cons, List.take_zero, List.drop_succ_cons, List.drop_zero, List.reverse_cons, List.reverse_nil, List.nil_append, List.cons_append, true_and, and_true, if_true, Nat.reduceAdd, Nat.reduceLT, Nat.reduceLeDiff, sq1, sq2, sq3, sq7, sq8, sc1, sc2, sc3, st1, st2, st3, gL_sW, gL_sI, gL_sR, gL_sC, gL_nW, gK_sW, gK_sI, gK_sR, gK_sC, gK_nW, gN_sW, gN_sI, gN_sR, gN_sC, gN_nW, gC_sW, gC_sI, gC_sR, gC_sC, gC_nW, gZ_sW, gZ_sI, gZ_sR, gZ_sC, gZ_nW, gR_sI, gI_sIk, k3, false_and, if_false, nI_leI (show n < 2 ^ 31 by omega) (show m < 2 ^ 31 by omega), hcl, hcl2, sc4 m (by omega), st4 m (by omega), nI_1, nI_add]
    have hih := ih (m + 1)
    refine ⟨fun c => absurd c (by omega), fun _ => ⟨s62, vp_in_nI (by omega) (by omega), fun c => ?_, fun c => ⟨s61, vp_in_nI (by omega) (by omega), s61, vp_in_nI (by omega) (by omega), s62, vp_in_nI (by omega) (by omega), s62, vp_in_nI (by omega) (by omega), ?_⟩⟩⟩
    · rw [drp_lt c] at hih
      exact hih S' (by omega) hR hF hg
    · rw [drp_ge c] at hih
      have F := (Fr.sI S' kc c6 (drp cd tm l m).1 (nI ((drp cd tm l m).2.1 m))).trans (Fr.sI (sI S' kc c6 (drp cd tm l m).1 (nI ((drp cd tm l m).2.1 m))) kt t6 (drp cd tm l m).1 (nI ((drp cd tm l m).2.2 m)))
      have e0 : gR S 6 q 0 = some c6 := by rw [← hg]; exact sq7
      have e1 : gR S 6 q 1 = some t6 := by rw [← hg]; exact sq8
      refine hih _ (by omega) ⟨c6, t6, (F.1 q sq1).1, (F.1 q sq1).2.1.trans sq2, by rw [gI_sIk, if_neg (fun w => k2 w.1), gI_sIk, if_neg (fun w => k1 w.1)]; exact sq3, sq4, sq5, ⟨s61, s62, s63⟩, by rw [gR_sI, gR_sI]; exact sq7, by rw [gR_sI, gR_sI]; exact sq8, ⟨(F.1 c6 sc1).1, (F.1 c6 sc1).2.1.trans sc2, (F.1 c6 sc1).2.2.trans sc3, fun j hj => ?_⟩, ⟨(F.1 t6 st1).1, (F.1 t6 st1).2.1.trans st2, (F.1 t6 st1).2.2.trans st3, fun j hj => ?_⟩⟩ ((hF.trans F).mono (fun t a _ w => ?_) (by decide) (by decide)) (by rw [gR_sI, gR_sI]; exact hg)
      · show _ = nI (if j = (drp cd tm l m).1 then (drp cd tm l m).2.1 m else (drp cd tm l m).2.1 j)
        rw [gI_sIk, if_neg (fun w => s63 w.1), gI_sIk]
        by_cases e : j = (drp cd tm l m).1
        · rw [if_pos ⟨rfl, rfl, e⟩, if_pos e]
        · rw [if_neg (fun w => e w.2.2), if_neg e]; exact sc4 j hj
      · show _ = nI (if j = (drp cd tm l m).1 then (drp cd tm l m).2.2 m else (drp cd tm l m).2.2 j)
        rw [gI_sIk]
        by_cases e : j = (drp cd tm l m).1
        · rw [if_pos ⟨rfl, rfl, e⟩, if_pos e]
        · rw [if_neg (fun w => e w.2.2), if_neg e, gI_sIk, if_neg (fun w => k3 w.1)]; exact st4 j hj
      · rcases w with w | w | w
        · exact w
        · exact Or.inr (Or.inl ⟨w.1, by rw [w.2]; exact e0⟩)
        · exact Or.inr (Or.inr ⟨w.1, by rw [w.2]; exact e1⟩)
theorem sp_dropBelow (hR : SeenR S q kc kt n L cd tm) {l : Int32} (h : ∀ S', SeenR S' q kc kt (drp cd tm l n).1 L (drp cd tm l n).2.1 (drp cd tm l n).2.2 → Fr S S' (SeenA S q kc kt) 0 0 → gR S' 6 q = gR S 6 q → Q (.inl (some (.int (nI n - nI (drp cd tm l n).1)))) S') : WG ks (d + 1) n_X4_dropBelow [.ref q, .int l] S Q := by
  refine ⟨by simp [cat1, Value.category], by show (2 : Nat) ≤ 4; decide, ?_⟩
  show Run ks (WG ks d) Q tb_X4_dropBelow 0 [some (.ref q), some (.int l), none, none] [] S
  simp only [e_X4_dropBelow_0, e_X4_dropBelow_1, e_X4_dropBelow_2, e_X4_dropBelow_3, e_X4_dropBelow_5, e_X4_dropBelow_6, e_X4_dropBelow_9, e_X4_dropBelow_12, e_X4_dropBelow_13, e_X4_dropBelow_16, e_X4_dropBelow_17, e_X4_dropBelow_18, e_X4_dropBelow_19, e_X4_dropBelow_22, e_X4_dropBelow_23, e_X4_dropBelow_26, e_X4_dropBelow_27, e_X4_dropBelow_28, e_X4_dropBelow_31, e_X4_dropBelow_32, e_X4_dropBelow_33, e_X4_dropBelow_34, e_X4_dropBelow_35, e_X4_dropBelow_38, e_X4_dropBelow_39, e_X4_dropBelow_40, e_X4_dropBelow_43, e_X4_dropBelow_44, e_X4_dropBelow_45, e_X4_dropBelow_46, e_X4_dropBelow_49, e_X4_dropBelow_52, e_X4_dropBelow_55, e_X4_dropBelow_56, e_X4_dropBelow_59, e_X4_dropBelow_60, e_X4_dropBelow_61, e_X4_dropBelow_62, e_X4_dropBelow_63, e_X4_dropBelow_64, e_X4_dropBelow_67, e_X4_dropBelow_68, o_const, o_iload, o_aload, o_fload, o_dload, o_istore, o_astore, o_fstore, o_dstore, o_iinc, o_bin, o_div, o_un, o_i2l, o_i2f, o_i2d, o_f2d, o_fdiv, o_ddiv, o_lcmp, o_fcmp, o_dcmp, o_if, o_if2, o_goto, o_dup, o_dupx1, o_dup2, o_pop, o_getI, o_getR, o_putI, o_putR, o_iald, o_iast, o_bald, o_bast, o_zald, o_zast, o_aald, o_aast, o_jald, o_jast, o_dald, o_dast, o_alen, o_castA, o_new, o_newa, o_callv, o_callvN, o_calli, o_calls, o_objinit, o_iret, o_zret, o_fret, o_dret, o_aret, o_vret, o_throw, o_acopy, o_bcopy, o_clone, o_tsw, o_ldcS, o_kval, o_kcoder, o_klen, o_kald, o_tald, o_getSq, o_callk, o_callvH, gl, stl, stl2, pre2, va_rf, Value.category, catS, List.length_cons, List.length_nil, List.map_cons, List.map_nil, List.sum_cons, List.sum_nil, List.take_succ_cons, List.take_zero, List.drop_succ_cons, List.drop_zero, List.reverse_cons, List.reverse_nil, List.nil_append, List.cons_append, true_and, and_true, if_true, Nat.reduceAdd, Nat.reduceLT, Nat.reduceLeDiff]
  exact sp_dropBelow_lp h n 0 S (by omega) hR ((Fr.rf S).mono (fun _ _ _ w => w.elim) (by decide) (by decide)) rfl
end SPS
