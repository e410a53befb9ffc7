/-! THE RAMP: its codes, widths, least, greatest, how many are different -/
def cnW (f : Nat → Nat) : Nat → Nat → Nat
  | 0, _ => 0
  | m + 1, c => cnW f m c + if f m = c then 1 else 0
def lsF (f : Nat → Nat) : Nat → Nat
  | 0 => 10230
  | m + 1 => min (lsF f m) (f m)
def gsF (f : Nat → Nat) : Nat → Nat
  | 0 => 0
  | m + 1 => max (gsF f m) (f m)
def dfF (f : Nat → Nat) : Nat → Nat
  | 0 => 0
  | m + 1 => dfF f m + if cnW f m (f m) = 0 then 1 else 0
theorem cnW_le (f : Nat → Nat) : ∀ m c, cnW f m c ≤ m := by
  intro m c
  induction m with
  | zero => exact Nat.le_refl _
  | succ m ih => simp only [cnW]; split <;> omega
theorem lsF_le (f : Nat → Nat) : ∀ m, lsF f m ≤ 10230 := by
  intro m
  induction m with
  | zero => exact Nat.le_refl _
  | succ m ih => simp only [lsF]; omega
theorem gsF_le {f : Nat → Nat} : ∀ m, (∀ x, x < m → f x ≤ 10230) → gsF f m ≤ 10230 := by
  intro m h
  induction m with
  | zero => exact Nat.zero_le _
  | succ m ih =>
    have := ih (fun x hx => h x (by omega))
    have := h m (by omega)
    simp only [gsF]; omega
theorem dfF_le (f : Nat → Nat) : ∀ m, dfF f m ≤ m := by
  intro m
  induction m with
  | zero => exact Nat.le_refl _
  | succ m ih => simp only [dfF]; split <;> omega
/-- mc codes are written, m of them are counted -/
def RampQ (S : M9) (p ck wk rg mc m : Nat) (f : Nat → Nat) : Prop := ∃ a w : Nat, p ∈ gL S ∧ gK S p = 4 ∧ gR S 4 p 0 = some a ∧ gR S 4 p 1 = some w ∧ gI S 4 p 2 = nI rg ∧ gI S 4 p 3 = nI (lsF f m) ∧ gI S 4 p 4 = nI (gsF f m) ∧ gI S 4 p 5 = nI (dfF f m) ∧
  (a ∈ gL S ∧ gK S a = ck ∧ gN S a = 5121 ∧ ∀ x, x < mc → gI S ck a x = nI (f x)) ∧ ArrR S wk w 10231 (fun c => nI (cnW f m c)) ∧ (rg ≤ 5120 ∧ m ≤ mc ∧ mc ≤ rg + 1 ∧ ∀ x, x < mc → f x ≤ 10230) ∧ (17 ≤ ck ∧ 17 ≤ wk ∧ ¬ ck = wk ∧ ck < 100 ∧ wk < 100 ∧ 60 ≤ ck ∧ 60 ≤ wk)
def RampR (S : M9) (p ck wk rg : Nat) (f : Nat → Nat) : Prop := RampQ S p ck wk rg (rg + 1) (rg + 1) f
/-- a ramp that may be of another state -/
def RampW (S : M9) (p ck wk : Nat) : Prop := ∃ a w : Nat, p ∈ gL S ∧ gK S p = 4 ∧ gR S 4 p 0 = some a ∧ gR S 4 p 1 = some w ∧ (a ∈ gL S ∧ gK S a = ck ∧ gN S a = 5121) ∧ (w ∈ gL S ∧ gK S w = wk ∧ gN S w = 10231) ∧ (17 ≤ ck ∧ 17 ≤ wk ∧ ¬ ck = wk ∧ ck < 100 ∧ wk < 100 ∧ 60 ≤ ck ∧ 60 ≤ wk)
theorem RampQ.w {S : M9} {p ck wk rg mc m : Nat} {f : Nat → Nat} (h : RampQ S p ck wk rg mc m f) : RampW S p ck wk := by
  obtain ⟨a, w, h1, h2, h3, h4, h5, h6, h7, h8, ⟨a1, a2, a3, a4⟩, ⟨w1, w2, w3, w4⟩, h9, h10⟩ := h
  exact ⟨a, w, h1, h2, h3, h4, ⟨a1, a2, a3⟩, ⟨w1, w2, w3⟩, h10⟩
theorem RampQ.fr {S S' : M9} {W : Nat → Nat → Prop} {c z p ck wk rg mc m : Nat} {f : Nat → Nat} (h : RampQ S p ck wk rg mc m f) (hF : Fr S S' W c z) (h4 : ¬ W 4 p) (hc : ∀ a, ¬ W ck a) (hw : ∀ a, ¬ W wk a) : RampQ S' p ck wk rg mc m f := by
  obtain ⟨a, w, h1, h2, h3, h4', h5, h6, h7, h8, ⟨a1, a2, a3, a4⟩, hW, h9, h10⟩ := h
  obtain ⟨x1, x2, -⟩ := hF.1 p h1
  obtain ⟨y1, y2, -⟩ := hF.2.1 4 p h1 h4
  obtain ⟨u1, u2, u3⟩ := hF.1 a a1
  exact ⟨a, w, x1, x2.trans h2, by rw [y2]; exact h3, by rw [y2]; exact h4', by rw [y1]; exact h5, by rw [y1]; exact h6, by rw [y1]; exact h7, by rw [y1]; exact h8, ⟨u1, u2.trans a2, u3.trans a3, fun x hx => by rw [(hF.2.1 ck a a1 (hc a)).1]; exact a4 x hx⟩, hW.fr hF (hw _), h9, h10⟩
theorem RampW.fr {S S' : M9} {W : Nat → Nat → Prop} {c z p ck wk : Nat} (h : RampW S p ck wk) (hF : Fr S S' W c z) (h4 : ¬ W 4 p) : RampW S' p ck wk := by
  obtain ⟨a, w, h1, h2, h3, h4', ⟨a1, a2, a3⟩, ⟨w1, w2, w3⟩, h10⟩ := h
  obtain ⟨x1, x2, -⟩ := hF.1 p h1
  obtain ⟨y1, y2, -⟩ := hF.2.1 4 p h1 h4
  obtain ⟨u1, u2, u3⟩ := hF.1 a a1
  obtain ⟨v1, v2, v3⟩ := hF.1 w w1
  exact ⟨a, w, x1, x2.trans h2, by rw [y2]; exact h3, by rw [y2]; exact h4', ⟨u1, u2.trans a2, u3.trans a3⟩, ⟨v1, v2.trans w2, v3.trans w3⟩, h10⟩
def RampA (p ck wk t a : Nat) : Prop := (t = 4 ∧ a = p) ∨ t = ck ∨ t = wk
section SPS
variable {ks : Nat → Nat} {d : Nat} {Q : QP} {S : M9} {p ck wk rg m : Nat} {f : Nat → Nat}
theorem sp_addInput (hR : RampQ S p ck wk rg (m + 1) m f) (h : ∀ S', RampQ S' p ck wk rg (m + 1) (m + 1) f → Fr S S' (RampA p ck wk) 0 0 → Q (.inl none) S') : WG ks (d + 2) n_X2_addInput [.ref p, .int (nI (f m))] S Q := by
  refine ⟨by simp [cat1, Value.category], by show (2 : Nat) ≤ 2; decide, ?_⟩
  show Run ks (WG ks (d + 1)) Q tb_X2_addInput 0 [some (.ref p), some (.int (nI (f m)))] [] S
  obtain ⟨a, w, h1, h2, h3, h4, h5, h6, h7, h8, ⟨a1, a2, a3, a4⟩, ⟨w1, w2, w3, w4⟩, ⟨v1, v2, v3, v4⟩, ⟨x1, x2, x3, x4, x5⟩⟩ := hR
  have hfm := v4 m (by omega)
  have hcl : (nI (f m)).toNatClampNeg = f m := nI_clamp (by omega)
  have k4 : ¬ 4 = wk := by omega
  have k5 : ¬ wk = 4 := by omega
  have hcm := cnW_le f m (f m)
  have n31 : (10231 : Int32) = nI 10231 := rfl
  have hmin : (if nI (f m) < nI (lsF f m) then nI (f m) else nI (lsF f m)) = nI (lsF f (m + 1)) := by
    have := lsF_le f m
    simp only [lsF]
    by_cases e : f m < lsF f m
    · rw [if_pos ((nI_ltI (by omega) (by omega)).mpr e), Nat.min_eq_right (by omega)]
    · rw [if_neg (fun z => e ((nI_ltI (by omega) (by omega)).mp z)), Nat.min_eq_left (by omega)]
  have hmax : (if nI (gsF f m) < nI (f m) then nI (f m) else nI (gsF f m)) = nI (gsF f (m + 1)) := by
    have := gsF_le (f := f) m (fun x hx => v4 x (by omega))
    simp only [gsF]
    by_cases e : gsF f m < f m
    · rw [if_pos ((nI_ltI (by omega) (by omega)).mpr e), Nat.max_eq_right (by omega)]
    · rw [if_neg (fun z => e ((nI_ltI (by omega) (by omega)).mp z)), Nat.max_eq_left (by omega)]
  have hfin : ∀ e, (if cnW f m (f m) = 0 then 1 else 0) = e → WG ks (d + 1) n_J9_min_7cf53 [.int (nI (lsF f m)), .int (nI (f m))] (sI (sI S 4 p 5 (nI (dfF f m + e))) wk w (f m) (nI (cnW f m (f m) + 1))) (behind Q (Run ks (WG ks (d + 1)) Q tb_X2_addInput) 55 [some (.ref p), some (.int (nI (f m)))] [.ref p]) := by
    intro e he
    refine sp_min ?_
    rw [hmin]
    simp only [behind, e_X2_addInput_0, e_X2_addInput_1, e_X2_addInput_4, e_X2_addInput_5, e_X2_addInput_6, e_X2_addInput_9, e_X2_addInput_10, e_X2_addInput_13, e_X2_addInput_14, e_X2_addInput_15, e_X2_addInput_18, e_X2_addInput_19, e_X2_addInput_22, e_X2_addInput_23, e_X2_addInput_24, e_X2_addInput_27, e_X2_addInput_28, e_X2_addInput_31, e_X2_addInput_32, e_X2_addInput_33, e_X2_addInput_36, e_X2_addInput_37, e_X2_addInput_40, e_X2_addInput_41, e_X2_addInput_42, e_X2_addInput_43, e_X2_addInput_44, e_X2_addInput_45, e_X2_addInput_46, e_X2_addInput_47, e_X2_addInput_48, e_X2_addInput_51, e_X2_addInput_52, e_X2_addInput_55, e_X2_addInput_58, e_X2_addInput_59, e_X2_addInput_60, e_X2_addInput_63, e_X2_addInput_64, e_X2_addInput_67, e_X2_addInput_70, o_const, o_iload, o_aload, o_fload, o_dload, o_istore, o_astore, o_fstore, o_dstore, o_iinc, o_bin, o_div, o_un, o_i2l, o_i2f, o_i2d, o_f2d, o_fdiv, o_ddiv, o_lcmp, o_fcmp, o_dcmp, o_if, o_if2, o_goto, o_dup, o_dupx1, o_dup2, o_pop, o_getI, o_getR, o_putI, o_putR, o_iald, o_iast, o_bald, o_bast, o_zald, o_zast, o_aald, o_aast, o_jald, o_jast, o_dald, o_dast, o_alen, o_castA, o_new, o_newa, o_callv, o_callvN, o_calli, o_calls, o_objinit, o_iret, o_zret, o_fret, o_dret, o_aret, o_vret, o_throw, o_acopy, o_bcopy, o_clone, o_tsw, o_ldcS, o_kval, o_kcoder, o_klen, o_kald, o_tald, o_getSq, o_callk, o_callvH, gl, stl, stl2, pre2, va_rf, Value.category, catS, List.length_cons, List.length_nil, List.map_cons, List.map_nil, List.sum_cons, List.sum_nil, List.take_succ_cons, List.take_zero, List.drop_succ_cons, List.drop_zero, List.reverse_cons, List.reverse_nil, List.nil_append, List.cons_append, true_and, and_true, if_true, Nat.reduceAdd, Nat.reduceLT, Nat.reduceLeDiff, h1, h2, h3, h4, h5, h6, h7, h8, gL_sW, gL_sI, gL_sR, gL_sC, gL_nW, gK_sW, gK_sI, gK_sR, gK_sC, gK_nW, gN_sW, gN_sI, gN_sR, gN_sC, gN_nW, gC_sW, gC_sI, gC_sR, gC_sC, gC_nW, gZ_sW, gZ_sI, gZ_sR, gZ_sC, gZ_nW, narI, gR_sI, gI_sIk, k4, false_and, if_false, Nat.reduceEqDiff, and_false]
    refine sp_max ?_
    rw [hmax]
    simp only [behind, e_X2_addInput_0, e_X2_addInput_1, e_X2_addInput_4, e_X2_addInput_5, e_X2_addInput_6, e_X2_addInput_9, e_X2_addInput_10, e_X2_addInput_13, e_X2_addInput_14, e_X2_addInput_15, e_X2_addInput_18, e_X2_addInput_19, e_X2_addInput_22, e_X2_addInput_23, e_X2_addInput_24, e_X2_addInput_27, e_X2_addInput_28, e_X2_addInput_31, e_X2_addInput_32, e_X2_addInput_33, e_X2_addInput_36, e_X2_addInput_37, e_X2_addInput_40, e_X2_addInput_41, e_X2_addInput_42, e_X2_addInput_43, e_X2_addInput_44, e_X2_addInput_45, e_X2_addInput_46, e_X2_addInput_47, e_X2_addInput_48, e_X2_addInput_51, e_X2_addInput_52, e_X2_addInput_55, e_X2_addInput_58, e_X2_addInput_59, e_X2_addInput_60, e_X2_addInput_63, e_X2_addInput_64, e_X2_addInput_67, e_X2_addInput_70, o_const, o_iload, o_aload, o_fload, o_dload, o_istore, o_astore, o_fstore, o_dstore, o_iinc, o_bin, o_div, o_un, o_i2l, o_i2f, o_i2d, o_f2d, o_fdiv, o_ddiv, o_lcmp, o_fcmp, o_dcmp, o_if, o_if2, o_goto, o_dup, o_dupx1, o_dup2, o_pop, o_getI, o_getR, o_putI, o_putR, o_iald, o_iast, o_bald, o_bast, o_zald, o_zast, o_aald, o_aast, o_jald, o_jast, o_dald, o_dast, o_alen, o_castA, o_new, o_newa, o_callv, o_callvN, o_calli, o_calls, o_objinit, o_iret, o_zret, o_fret, o_dret, o_aret, o_vret, o_throw, o_acopy, o_bcopy, o_clone, o_tsw, o_ldcS, o_kval, o_kcoder, o_klen, o_kald, o_tald, o_getSq, o_callk, o_callvH, gl, stl, stl2, pre2, va_rf, Value.category, catS, List.length_cons, List.length_nil, List.map_cons, List.map_nil, List.sum_cons, List.sum_nil, List.take_succ_cons, List.take_zero, List.drop_succ_cons, List.drop_zero, List.reverse_cons, List.reverse_nil, List.nil_append, List.cons_append, true_and, and_true, if_true, Nat.reduceAdd, Nat.reduceLT, Nat.reduceLeDiff, h1, h2, h3, h4, gL_sW, gL_sI, gL_sR, gL_sC, gL_nW, gK_sW, gK_sI, gK_sR, gK_sC, gK_nW, gN_sW, gN_sI, gN_sR, gN_sC, gN_nW, gC_sW, gC_sI, gC_sR, gC_sC, gC_nW, gZ_sW, gZ_sI, gZ_sR, gZ_sC, gZ_nW, narI, gR_sI]
    have F := (Fr.sI S 4 p 5 (nI (dfF f m + e))).trans ((Fr.sI (sI S 4 p 5 (nI (dfF f m + e))) wk w (f m) (nI (cnW f m (f m) + 1))).trans ((Fr.sI (sI (sI S 4 p 5 (nI (dfF f m + e))) wk w (f m) (nI (cnW f m (f m) + 1))) 4 p 3 (nI (lsF f (m + 1)))).trans (Fr.sI (sI (sI (sI S 4 p 5 (nI (dfF f m + e))) wk w (f m) (nI (cnW f m (f m) + 1))) 4 p 3 (nI (lsF f (m + 1)))) 4 p 4 (nI (gsF f (m + 1))))))
    refine h _ ⟨a, w, (F.1 p h1).1, (F.1 p h1).2.1.trans h2, h3, h4, ?_, ?_, ?_, ?_, ⟨(F.1 a a1).1, (F.1 a a1).2.1.trans a2, (F.1 a a1).2.2.trans a3, fun x hx => ?_⟩, ⟨(F.1 w w1).1, (F.1 w w1).2.1.trans w2, (F.1 w w1).2.2.trans w3, fun c hc => ?_⟩, ⟨by omega, by omega, by omega, v4⟩, ⟨x1, x2, x3, x4, x5⟩⟩ (F.mono (fun t a' _ u => ?_) (by decide) (by decide))
    · rw [gI_sIk, if_neg (fun u => absurd u.2.2 (by decide)), gI_sIk, if_neg (fun u => absurd u.2.2 (by decide)), gI_sIk, if_neg (fun u => k4 u.1), gI_sIk, if_neg (fun u => absurd u.2.2 (by decide))]; exact h5
    · rw [gI_sIk, if_neg (fun u => absurd u.2.2 (by decide)), gI_sIk, if_pos ⟨rfl, rfl, rfl⟩]
    · rw [gI_sIk, if_pos ⟨rfl, rfl, rfl⟩]
    · rw [gI_sIk, if_neg (fun u => absurd u.2.2 (by decide)), gI_sIk, if_neg (fun u => absurd u.2.2 (by decide)), gI_sIk, if_neg (fun u => k4 u.1), gI_sIk, if_pos ⟨rfl, rfl, rfl⟩]
      subst he; rfl
    · rw [(F.2.1 ck a a1 (fun u => by omega)).1]; exact a4 x hx
    · rw [gI_sIk, if_neg (fun u => k5 u.1), gI_sIk, if_neg (fun u => k5 u.1), gI_sIk]
      show _ = nI (cnW f m c + if f m = c then 1 else 0)
      by_cases e : c = f m
      · rw [if_pos ⟨rfl, rfl, e⟩, if_pos e.symm, e]
      · rw [if_neg (fun u => e u.2.2), if_neg (fun u => e u.symm), gI_sIk, if_neg (fun u => k5 u.1)]; exact w4 c hc
    · rcases u with u | u | u | u
      · exact Or.inl u
      · exact Or.inr (Or.inr u.1)
      · exact Or.inl u
      · exact Or.inl u
  simp only [e_X2_addInput_0, e_X2_addInput_1, e_X2_addInput_4, e_X2_addInput_5, e_X2_addInput_6, e_X2_addInput_9, e_X2_addInput_10, e_X2_addInput_13, e_X2_addInput_14, e_X2_addInput_15, e_X2_addInput_18, e_X2_addInput_19, e_X2_addInput_22, e_X2_addInput_23, e_X2_addInput_24, e_X2_addInput_27, e_X2_addInput_28, e_X2_addInput_31, e_X2_addInput_32, e_X2_addInput_33, e_X2_addInput_36, e_X2_addInput_37, e_X2_addInput_40, e_X2_addInput_41, e_X2_addInput_42, e_X2_addInput_43, e_X2_addInput_44, e_X2_addInput_45, e_X2_addInput_46, e_X2_addInput_47, e_X2_addInput_48, e_X2_addInput_51, e_X2_addInput_52, e_X2_addInput_55, e_X2_addInput_58, e_X2_addInput_59, e_X2_addInput_60, e_X2_addInput_63, e_X2_addInput_64, e_X2_addInput_67, e_X2_addInput_70, o_const, o_iload, o_aload, o_fload, o_dload, o_istore, o_astore, o_fstore, o_dstore, o_iinc, o_bin, o_div, o_un, o_i2l, o_i2f, o_i2d, o_f2d, o_fdiv, o_ddiv, o_lcmp, o_fcmp, o_dcmp, o_if, o_if2, o_goto, o_dup, o_dupx1, o_dup2, o_pop, o_getI, o_getR, o_putI, o_putR, o_iald, o_iast, o_bald, o_bast, o_zald, o_zast, o_aald, o_aast, o_jald, o_jast, o_dald, o_dast, o_alen, o_castA, o_new, o_newa, o_callv, o_callvN, o_calli, o_calls, o_objinit, o_iret, o_zret, o_fret, o_dret, o_aret, o_vret, o_throw, o_acopy, o_bcopy, o_clone, o_tsw, o_ldcS, o_kval, o_kcoder, o_klen, o_kald, o_tald, o_getSq, o_callk, o_callvH, gl, stl, stl2, pre2, va_rf, Value.category, catS, List.length_cons, List.length_nil, List.map_cons, List.map_nil, List.sum_cons, List.sum_nil, List.take_succ_cons, List.take_zero, List.drop_succ_cons, List.drop_zero, List.reverse_cons, List.reverse_nil, List.nil_append, List.cons_append, true_and, and_true, if_true, Nat.reduceAdd, Nat.reduceLT, Nat.reduceLeDiff, h1, h2, h3, h4, h5, h6, h7, h8, w1, w2, w3, hcl, gL_sW, gL_sI, gL_sR, gL_sC, gL_nW, gK_sW, gK_sI, gK_sR, gK_sC, gK_nW, gN_sW, gN_sI, gN_sR, gN_sC, gN_nW, gC_sW, gC_sI, gC_sR, gC_sC, gC_nW, gZ_sW, gZ_sI, gZ_sR, gZ_sC, gZ_nW, narI, gR_sI, gI_sIk, k4, k5, false_and, if_false, w4 (f m) (by omega), Nat.reduceEqDiff, and_false, nI_1, nI_z]
  have hvp : vp_in (nI (f m)) 10231 := vp_in_nI (by omega) (by decide)
  refine ⟨fun c => absurd c (nI_pos (by omega)), fun _ => ⟨by omega, fun c => absurd ((nI_leI (by decide) (by omega)).mp c) (by omega), fun _ => ⟨x2, hvp, fun c => ⟨x2, hvp, x2, hvp, ?_⟩, fun c => ⟨x2, hvp, x2, hvp, ?_⟩⟩⟩⟩
  · exact hfin 0 (if_neg (fun z => c (by rw [z]; rfl)))
  · exact hfin 1 (if_pos ((nI_eq (b := 0) (by omega) (by decide)).mp (Classical.not_not.mp c)))
end SPS
