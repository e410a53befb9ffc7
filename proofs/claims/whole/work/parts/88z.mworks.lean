/-! THE MODEL: the ramp worked -/
def rcS (C : CSt) (sd sh : Int32) (x : Nat) : Nat := cvC C (qst (sSet C) (nI x) sd sh (aWm (sSet C))).2
def MRamp (S : M9) (m : Nat) (ad : Nat → Nat) (rg : Nat) (f : Nat → Nat) : Prop :=
  (gI S 11 m 25 = nI (lsF f (rg + 1)) ∧ gI S 11 m 26 = nI (gsF f (rg + 1))) ∧ (∀ x, x ≤ rg → gI S 49 (ad 23) x = nI (f x)) ∧ ∀ c, c < 10231 → gI S 50 (ad 24) c = nI (cnW f (rg + 1) c)
def WkI (S S' : M9) (m : Nat) (ad : Nat → Nat) (f : Nat → Nat) (x : Nat) : Prop :=
  MS S' m ad ∧ (∀ j, gI S' 40 (ad 0) j = gI S 40 (ad 0) j) ∧ (∀ j, ¬ j = 25 → ¬ j = 26 → gI S' 11 m j = gI S 11 m j) ∧ (x = 0 ∨ (gI S' 11 m 25 = nI (lsF f x) ∧ gI S' 11 m 26 = nI (gsF f x))) ∧ (∀ y, y < x → gI S' 49 (ad 23) y = nI (f y)) ∧ (∀ c, c < 10231 → gI S' 50 (ad 24) c = nI (cnW f x c)) ∧
  Fr S S' (fun t a => (t = 11 ∧ a = m) ∨ t = 40 ∨ (45 ≤ t ∧ t ≤ 50)) 0 0
section SPS
variable {ks : Nat → Nat} {d : Nat} {Q : QP} {S : M9} {m : Nat} {ad : Nat → Nat} {C : CSt}
theorem sp_mWz_lp (hM : MS S m ad) {rg : Int32}
    (h : ∀ S', MS S' m ad → (∀ j, j < 10231 → gI S' 50 (ad 24) j = 0) → Fr S S' (fun t a => t = 50 ∧ a = ad 24) 0 0 → Run ks (WG ks d) Q tb_X9_works 27 [some (.ref m), some (.int rg), some (.int (nI 10231)), none] [] S') :
    ∀ r k S', k + r = 10231 → MS S' m ad → (∀ j, j < k → gI S' 50 (ad 24) j = 0) → Fr S S' (fun t a => t = 50 ∧ a = ad 24) 0 0 →
      Run ks (WG ks d) Q tb_X9_works 7 [some (.ref m), some (.int rg), some (.int (nI k)), none] [] S' := by
  intro r
  induction r with
  | zero =>
    intro k S' hk hM' hg hF
    have e : k = 10231 := by omega
    subst e
    rw [e_X9_works_7]
    simp only [e_X9_works_0, e_X9_works_1, e_X9_works_4, e_X9_works_5, e_X9_works_6, e_X9_works_8, e_X9_works_11, e_X9_works_14, e_X9_works_15, e_X9_works_18, e_X9_works_19, e_X9_works_20, e_X9_works_21, e_X9_works_24, e_X9_works_28, e_X9_works_30, e_X9_works_31, e_X9_works_34, e_X9_works_35, e_X9_works_36, e_X9_works_37, e_X9_works_38, e_X9_works_41, e_X9_works_42, e_X9_works_43, e_X9_works_46, e_X9_works_47, e_X9_works_48, e_X9_works_49, e_X9_works_50, e_X9_works_53, e_X9_works_54, e_X9_works_55, e_X9_works_56, e_X9_works_57, e_X9_works_58, e_X9_works_59, e_X9_works_60, e_X9_works_61, e_X9_works_64, e_X9_works_65, e_X9_works_66, e_X9_works_69, e_X9_works_72, e_X9_works_73, e_X9_works_76, e_X9_works_77, e_X9_works_80, e_X9_works_83, e_X9_works_84, e_X9_works_85, e_X9_works_88, e_X9_works_89, e_X9_works_90, e_X9_works_93, e_X9_works_96, e_X9_works_97, e_X9_works_100, e_X9_works_101, e_X9_works_104, e_X9_works_107, e_X9_works_110, e_X9_works_113, o_const, o_iload, o_aload, o_fload, o_dload, o_istore, o_astore, o_fstore, o_dstore, o_iinc, o_bin, o_div, o_un, o_i2l, o_i2f, o_i2d, o_f2d, o_fdiv, o_ddiv, o_lcmp, o_fcmp, o_dcmp, o_if, o_if2, o_goto, o_dup, o_dupx1, o_dup2, o_pop, o_getI, o_getR, o_putI, o_putR, o_iald, o_iast, o_bald, o_bast, o_zald, o_zast, o_aald, o_aast, o_jald, o_jast, o_dald, o_dast, o_alen, o_castA, o_new, o_newa, o_callv, o_callvN, o_calli, o_calls, o_objinit, o_iret, o_zret, o_fret, o_dret, o_aret, o_vret, o_throw, o_acopy, o_bcopy, o_clone, o_tsw, o_ldcS, o_kval, o_kcoder, o_klen, o_kald, o_tald, o_getSq, o_callk, o_callvH, gl, stl, stl2, pre2, va_rf, Value.category, catS, List.length_cons, List.length_nil, List.map_cons, List.map_nil, List.sum_cons, List.sum_nil, List.take_succ_cons, List.take_zero, List.drop_succ_cons, List.drop_zero, List.reverse_cons, List.reverse_nil, List.nil_append, List.cons_append, true_and, and_true, if_true, Nat.reduceAdd, Nat.reduceLT, Nat.reduceLeDiff]
    exact ⟨fun _ => h S' hM' hg hF, fun c => absurd (nI_le (Nat.le_refl 10231) (by decide)) c⟩
  | succ r ih =>
    intro k S' hk hM' hg hF
    have hMc := hM'
    obtain ⟨⟨m1, m2⟩, -, -, -, -, -, -, -, -, -, -, -, ⟨b1, b2, b3, b4⟩, -⟩ := hMc
    have q0 : (nI k).toNatClampNeg = k := nI_clamp (by omega)
    have v0 : vp_in (nI k) 10231 := vp_in_nI (by omega) (by decide)
    have F2 := Fr.sI S' 50 (ad 24) k 0
    rw [e_X9_works_7]
    simp only [e_X9_works_0, e_X9_works_1, e_X9_works_4, e_X9_works_5, e_X9_works_6, e_X9_works_8, e_X9_works_11, e_X9_works_14, e_X9_works_15, e_X9_works_18, e_X9_works_19, e_X9_works_20, e_X9_works_21, e_X9_works_24, e_X9_works_28, e_X9_works_30, e_X9_works_31, e_X9_works_34, e_X9_works_35, e_X9_works_36, e_X9_works_37, e_X9_works_38, e_X9_works_41, e_X9_works_42, e_X9_works_43, e_X9_works_46, e_X9_works_47, e_X9_works_48, e_X9_works_49, e_X9_works_50, e_X9_works_53, e_X9_works_54, e_X9_works_55, e_X9_works_56, e_X9_works_57, e_X9_works_58, e_X9_works_59, e_X9_works_60, e_X9_works_61, e_X9_works_64, e_X9_works_65, e_X9_works_66, e_X9_works_69, e_X9_works_72, e_X9_works_73, e_X9_works_76, e_X9_works_77, e_X9_works_80, e_X9_works_83, e_X9_works_84, e_X9_works_85, e_X9_works_88, e_X9_works_89, e_X9_works_90, e_X9_works_93, e_X9_works_96, e_X9_works_97, e_X9_works_100, e_X9_works_101, e_X9_works_104, e_X9_works_107, e_X9_works_110, e_X9_works_113, o_const, o_iload, o_aload, o_fload, o_dload, o_istore, o_astore, o_fstore, o_dstore, o_iinc, o_bin, o_div, o_un, o_i2l, o_i2f, o_i2d, o_f2d, o_fdiv, o_ddiv, o_lcmp, o_fcmp, o_dcmp, o_if, o_if2, o_goto, o_dup, o_dupx1, o_dup2, o_pop, o_getI, o_getR, o_putI, o_putR, o_iald, o_iast, o_bald, o_bast, o_zald, o_zast, o_aald, o_aast, o_jald, o_jast, o_dald, o_dast, o_alen, o_castA, o_new, o_newa, o_callv, o_callvN, o_calli, o_calls, o_objinit, o_iret, o_zret, o_fret, o_dret, o_aret, o_vret, o_throw, o_acopy, o_bcopy, o_clone, o_tsw, o_ldcS, o_kval, o_kcoder, o_klen, o_kald, o_tald, o_getSq, o_callk, o_callvH, gl, stl, stl2, pre2, va_rf, Value.category, catS, List.length_cons, List.length_nil, List.map_cons, List.map_nil, List.sum_cons, List.sum_nil, List.take_succ_cons, List.take_zero, List.drop_succ_cons, List.drop_zero, List.reverse_cons, List.reverse_nil, List.nil_append, List.cons_append, true_and, and_true, if_true, Nat.reduceAdd, Nat.reduceLT, Nat.reduceLeDiff, m1, m2, b1, b2, b3, b4, q0, v0, nI_1]
    refine ⟨fun c => absurd ((nI_leI (a := 10231) (by decide) (by omega)).mp c) (by omega), fun _ => ih (k + 1) _ (by omega) (hM'.fr F2 (by rw [gR_sI])) (fun j hj => ?_) ((hF.trans F2).mono (fun _ _ _ w => w.elim id id) (by decide) (by decide))⟩
    rw [gI_sIk]
    by_cases e : j = k
    · rw [if_pos ⟨rfl, rfl, e⟩]
    · rw [if_neg (fun w => e w.2.2)]; exact hg j (by omega)
theorem sp_mWk_lp (hM : MS S m ad) (hR : RowR (gI S 40 (ad 0)) 0 C) (hV : SetV (sSet C)) (hz : sNoi C ≤ 65535) (hT : ∀ k, k < aWm (sSet C) → sTab C k ≤ 1023) {sd sh : Int32} (h20 : gI S 11 m 20 = sd) (h21 : gI S 11 m 21 = sh) {rg : Nat} (hrg : rg ≤ 5120)
    (h : ∀ S', WkI S S' m ad (rcS C sd sh) (rg + 1) → Q (.inl none) S') :
    ∀ r x S' g, x + r = rg + 1 → WkI S S' m ad (rcS C sd sh) x → Run ks (WG ks (d + 2)) Q tb_X9_works 29 [some (.ref m), some (.int (nI rg)), some (.int (nI x)), g] [] S' := by
  have hm0 := hM.1.1
  intro r
  induction r with
  | zero =>
    intro x S' g hx hI
    have e : x = rg + 1 := by omega
    subst e
    rw [e_X9_works_29]
    simp only [e_X9_works_0, e_X9_works_1, e_X9_works_4, e_X9_works_5, e_X9_works_6, e_X9_works_7, e_X9_works_8, e_X9_works_11, e_X9_works_14, e_X9_works_15, e_X9_works_18, e_X9_works_19, e_X9_works_20, e_X9_works_21, e_X9_works_24, e_X9_works_27, e_X9_works_28, e_X9_works_30, e_X9_works_31, e_X9_works_34, e_X9_works_35, e_X9_works_36, e_X9_works_37, e_X9_works_38, e_X9_works_41, e_X9_works_42, e_X9_works_43, e_X9_works_46, e_X9_works_47, e_X9_works_48, e_X9_works_49, e_X9_works_50, e_X9_works_53, e_X9_works_54, e_X9_works_55, e_X9_works_56, e_X9_works_57, e_X9_works_58, e_X9_works_59, e_X9_works_60, e_X9_works_61, e_X9_works_64, e_X9_works_65, e_X9_works_66, e_X9_works_69, e_X9_works_72, e_X9_works_73, e_X9_works_76, e_X9_works_77, e_X9_works_83, e_X9_works_84, e_X9_works_85, e_X9_works_88, e_X9_works_89, e_X9_works_90, e_X9_works_93, e_X9_works_96, e_X9_works_97, e_X9_works_100, e_X9_works_101, e_X9_works_107, e_X9_works_110, e_X9_works_113, o_const, o_iload, o_aload, o_fload, o_dload, o_istore, o_astore, o_fstore, o_dstore, o_iinc, o_bin, o_div, o_un, o_i2l, o_i2f, o_i2d, o_f2d, o_fdiv, o_ddiv, o_lcmp, o_fcmp, o_dcmp, o_if, o_if2, o_goto, o_dup, o_dupx1, o_dup2, o_pop, o_getI, o_getR, o_putI, o_putR, o_iald, o_iast, o_bald, o_bast, o_zald, o_zast, o_aald, o_aast, o_jald, o_jast, o_dald, o_dast, o_alen, o_castA, o_new, o_newa, o_callv, o_callvN, o_calli, o_calls, o_objinit, o_iret, o_zret, o_fret, o_dret, o_aret, o_vret, o_throw, o_acopy, o_bcopy, o_clone, o_tsw, o_ldcS, o_kval, o_kcoder, o_klen, o_kald, o_tald, o_getSq, o_callk, o_callvH, gl, stl, stl2, pre2, va_rf, Value.category, catS, List.length_cons, List.length_nil, List.map_cons, List.map_nil, List.sum_cons, List.sum_nil, List.take_succ_cons, List.take_zero, List.drop_succ_cons, List.drop_zero, List.reverse_cons, List.reverse_nil, List.nil_append, List.cons_append, true_and, and_true, if_true, Nat.reduceAdd, Nat.reduceLT, Nat.reduceLeDiff]
    exact ⟨fun _ => h S' hI, fun c => absurd (nI_lt (Nat.lt_succ_self rg) (by omega)) c⟩
  | succ r ih =>
    intro x S' g hx hI
    obtain ⟨i1, i2, i3, i4, i5, i6, i7⟩ := hI
    have hc : rcS C sd sh x ≤ 10230 := cvC_le hV hT _
    have hR' : RowR (gI S' 40 (ad 0)) 0 C := hR.noi0 i2
    have hm := i1.1
    rw [e_X9_works_29]
    simp only [e_X9_works_0, e_X9_works_1, e_X9_works_4, e_X9_works_5, e_X9_works_6, e_X9_works_7, e_X9_works_8, e_X9_works_11, e_X9_works_14, e_X9_works_15, e_X9_works_18, e_X9_works_19, e_X9_works_20, e_X9_works_21, e_X9_works_24, e_X9_works_27, e_X9_works_28, e_X9_works_30, e_X9_works_31, e_X9_works_34, e_X9_works_35, e_X9_works_36, e_X9_works_37, e_X9_works_38, e_X9_works_41, e_X9_works_42, e_X9_works_43, e_X9_works_46, e_X9_works_47, e_X9_works_48, e_X9_works_49, e_X9_works_50, e_X9_works_53, e_X9_works_54, e_X9_works_55, e_X9_works_56, e_X9_works_57, e_X9_works_58, e_X9_works_59, e_X9_works_60, e_X9_works_61, e_X9_works_64, e_X9_works_65, e_X9_works_66, e_X9_works_69, e_X9_works_72, e_X9_works_73, e_X9_works_76, e_X9_works_77, e_X9_works_83, e_X9_works_84, e_X9_works_85, e_X9_works_88, e_X9_works_89, e_X9_works_90, e_X9_works_93, e_X9_works_96, e_X9_works_97, e_X9_works_100, e_X9_works_101, e_X9_works_107, e_X9_works_110, e_X9_works_113, o_const, o_iload, o_aload, o_fload, o_dload, o_istore, o_astore, o_fstore, o_dstore, o_iinc, o_bin, o_div, o_un, o_i2l, o_i2f, o_i2d, o_f2d, o_fdiv, o_ddiv, o_lcmp, o_fcmp, o_dcmp, o_if, o_if2, o_goto, o_dup, o_dupx1, o_dup2, o_pop, o_getI, o_getR, o_putI, o_putR, o_iald, o_iast, o_bald, o_bast, o_zald, o_zast, o_aald, o_aast, o_jald, o_jast, o_dald, o_dast, o_alen, o_castA, o_new, o_newa, o_callv, o_callvN, o_calli, o_calls, o_objinit, o_iret, o_zret, o_fret, o_dret, o_aret, o_vret, o_throw, o_acopy, o_bcopy, o_clone, o_tsw, o_ldcS, o_kval, o_kcoder, o_klen, o_kald, o_tald, o_getSq, o_callk, o_callvH, gl, stl, stl2, pre2, va_rf, Value.category, catS, List.length_cons, List.length_nil, List.map_cons, List.map_nil, List.sum_cons, List.sum_nil, List.take_succ_cons, List.take_zero, List.drop_succ_cons, List.drop_zero, List.reverse_cons, List.reverse_nil, List.nil_append, List.cons_append, true_and, and_true, if_true, Nat.reduceAdd, Nat.reduceLT, Nat.reduceLeDiff, hm]
    refine ⟨fun c => absurd ((nI_ltI (by omega) (by omega)).mp c) (by omega), fun _ => ⟨⟨m, _, rfl, rfl, hm⟩, sp_mQuiet (sd := sd) (sh := sh) i1 hR' hV hz (by rw [i3 20 (by decide) (by decide)]; exact h20) (by rw [i3 21 (by decide) (by decide)]; exact h21) ?_⟩⟩
    intro S2 hM2 hrow2 F2
    have hMc := hM2
    obtain ⟨⟨m1, m2⟩, -, -, -, -, -, -, -, -, -, -, ⟨a1, a2, a3, a4⟩, ⟨b1, b2, b3, b4⟩, -⟩ := hMc
    have f11 := (F2.2.1 11 m hm.1 (fun w => by omega)).1
    have f49 := (F2.2.1 49 (ad 23) i1.2.2.2.2.2.2.2.2.2.2.2.1.2.1 (fun w => by omega)).1
    have f50 := (F2.2.1 50 (ad 24) i1.2.2.2.2.2.2.2.2.2.2.2.2.1.2.1 (fun w => by omega)).1
    have q0 : (nI x).toNatClampNeg = x := nI_clamp (by omega)
    have v0 : vp_in (nI x) 5121 := vp_in_nI (by omega) (by decide)
    have q1 : (nI (rcS C sd sh x)).toNatClampNeg = rcS C sd sh x := nI_clamp (by omega)
    have v1 : vp_in (nI (rcS C sd sh x)) 10231 := vp_in_nI (by omega) (by decide)
    have r50 : gI S2 50 (ad 24) (rcS C sd sh x) = nI (cnW (rcS C sd sh) x (rcS C sd sh x)) := by rw [f50]; exact i6 _ (by omega)
    have F3 := Fr.sI S2 49 (ad 23) x (nI (rcS C sd sh x))
    have F4 := Fr.sI (sI S2 49 (ad 23) x (nI (rcS C sd sh x))) 50 (ad 24) (rcS C sd sh x) (nI (cnW (rcS C sd sh) x (rcS C sd sh x) + 1))
    have hM4 := (hM2.fr F3 (by rw [gR_sI])).fr F4 (by rw [gR_sI])
    show behind Q _ _ _ _ (.inl (some (.int (nI (rcS C sd sh x))))) S2
    have F24 := F2.trans (F3.trans F4)
    generalize hS4 : sI (sI S2 49 (ad 23) x (nI (rcS C sd sh x))) 50 (ad 24) (rcS C sd sh x) (nI (cnW (rcS C sd sh) x (rcS C sd sh x) + 1)) = S4 at *
    have g11 : gI S4 11 m = gI S' 11 m := by
      rw [← f11]
      exact (((F3.trans F4).2.1 11 m m1 (fun w => by omega))).1
    have hmid : ∀ v w, v = nI (lsF (rcS C sd sh) (x + 1)) → w = nI (gsF (rcS C sd sh) (x + 1)) → Run ks (WG ks (d + 2)) Q tb_X9_works 104 [some (.ref m), some (.int (nI rg)), some (.int (nI x)), some (.int (nI (rcS C sd sh x)))] [.int w, .ref m] (sI S4 11 m 25 v) := by
      intro v w e1 e2
      subst e1 e2
      have hm4 := hM4.1
      have F5 := Fr.sI S4 11 m 25 (nI (lsF (rcS C sd sh) (x + 1)))
      have F6 := Fr.sI (sI S4 11 m 25 (nI (lsF (rcS C sd sh) (x + 1)))) 11 m 26 (nI (gsF (rcS C sd sh) (x + 1)))
      rw [e_X9_works_104]
      simp only [e_X9_works_0, e_X9_works_1, e_X9_works_4, e_X9_works_5, e_X9_works_6, e_X9_works_7, e_X9_works_8, e_X9_works_11, e_X9_works_14, e_X9_works_15, e_X9_works_18, e_X9_works_19, e_X9_works_20, e_X9_works_21, e_X9_works_24, e_X9_works_27, e_X9_works_28, e_X9_works_30, e_X9_works_31, e_X9_works_34, e_X9_works_35, e_X9_works_36, e_X9_works_37, e_X9_works_38, e_X9_works_41, e_X9_works_42, e_X9_works_43, e_X9_works_46, e_X9_works_47, e_X9_works_48, e_X9_works_49, e_X9_works_50, e_X9_works_53, e_X9_works_54, e_X9_works_55, e_X9_works_56, e_X9_works_57, e_X9_works_58, e_X9_works_59, e_X9_works_60, e_X9_works_61, e_X9_works_64, e_X9_works_65, e_X9_works_66, e_X9_works_69, e_X9_works_72, e_X9_works_73, e_X9_works_76, e_X9_works_77, e_X9_works_83, e_X9_works_84, e_X9_works_85, e_X9_works_88, e_X9_works_89, e_X9_works_90, e_X9_works_93, e_X9_works_96, e_X9_works_97, e_X9_works_100, e_X9_works_101, e_X9_works_107, e_X9_works_110, e_X9_works_113, o_const, o_iload, o_aload, o_fload, o_dload, o_istore, o_astore, o_fstore, o_dstore, o_iinc, o_bin, o_div, o_un, o_i2l, o_i2f, o_i2d, o_f2d, o_fdiv, o_ddiv, o_lcmp, o_fcmp, o_dcmp, o_if, o_if2, o_goto, o_dup, o_dupx1, o_dup2, o_pop, o_getI, o_getR, o_putI, o_putR, o_iald, o_iast, o_bald, o_bast, o_zald, o_zast, o_aald, o_aast, o_jald, o_jast, o_dald, o_dast, o_alen, o_castA, o_new, o_newa, o_callv, o_callvN, o_calli, o_calls, o_objinit, o_iret, o_zret, o_fret, o_dret, o_aret, o_vret, o_throw, o_acopy, o_bcopy, o_clone, o_tsw, o_ldcS, o_kval, o_kcoder, o_klen, o_kald, o_tald, o_getSq, o_callk, o_callvH, gl, stl, stl2, pre2, va_rf, Value.category, catS, List.length_cons, List.length_nil, List.map_cons, List.map_nil, List.sum_cons, List.sum_nil, List.take_succ_cons, List.take_zero, List.drop_succ_cons, List.drop_zero, List.reverse_cons, List.reverse_nil, List.nil_append, List.cons_append, true_and, and_true, if_true, Nat.reduceAdd, Nat.reduceLT, Nat.reduceLeDiff, hm4, gL_sW, gL_sI, gL_sR, gL_sC, gL_nW, gK_sW, gK_sI, gK_sR, gK_sC, gK_nW, gN_sW, gN_sI, gN_sR, gN_sC, gN_nW, gC_sW, gC_sI, gC_sR, gC_sC, gC_nW, gZ_sW, gZ_sI, gZ_sR, gZ_sC, gZ_nW, narI, nI_1]
      refine ih (x + 1) _ _ (by omega) ⟨(hM4.fr F5 (by rw [gR_sI])).fr F6 (by rw [gR_sI]), fun j => ?_, fun j h25 h26 => ?_, Or.inr ⟨?_, ?_⟩, fun y hy => ?_, fun c hc2 => ?_, ((i7.trans F24).trans (F5.trans F6)).mono (fun t a _ w => by omega) (by decide) (by decide)⟩
      · rw [gI_sIk, if_neg (fun w => by omega), gI_sIk, if_neg (fun w => by omega), ← hS4, gI_sIk, if_neg (fun w => by omega), gI_sIk, if_neg (fun w => by omega), hrow2, i2]
      · rw [gI_sIk, if_neg (fun w => h26 w.2.2), gI_sIk, if_neg (fun w => h25 w.2.2), g11]; exact i3 j h25 h26
      · rw [gI_sIk, if_neg (fun w => by omega), gI_sIk, if_pos ⟨rfl, rfl, rfl⟩]
      · rw [gI_sIk, if_pos ⟨rfl, rfl, rfl⟩]
      · rw [gI_sIk, if_neg (fun w => by omega), gI_sIk, if_neg (fun w => by omega), ← hS4, gI_sIk, if_neg (fun w => by omega), gI_sIk]
        by_cases e : y = x
        · rw [if_pos ⟨rfl, rfl, e⟩, e]
        · rw [if_neg (fun w => e w.2.2), f49]; exact i5 y (by omega)
      · rw [gI_sIk, if_neg (fun w => by omega), gI_sIk, if_neg (fun w => by omega), ← hS4, gI_sIk]
        rw [show cnW (rcS C sd sh) (x + 1) c = cnW (rcS C sd sh) x c + if rcS C sd sh x = c then 1 else 0 from rfl]
        by_cases e : c = rcS C sd sh x
        · rw [if_pos ⟨rfl, rfl, e⟩, if_pos e.symm, e]
        · rw [if_neg (fun w => e w.2.2), if_neg (fun w => e w.symm), Nat.add_zero, gI_sIk, if_neg (fun w => by omega), f50]; exact i6 c hc2
    have hle := lsF_le (rcS C sd sh) x
    have hge := gsF_le (f := rcS C sd sh) x (fun y _ => cvC_le hV hT _)
    have hmid2 : ∀ v, v = nI (lsF (rcS C sd sh) (x + 1)) → Run ks (WG ks (d + 2)) Q tb_X9_works 80 [some (.ref m), some (.int (nI rg)), some (.int (nI x)), some (.int (nI (rcS C sd sh x)))] [.int v, .ref m] S4 := by
      intro v e1
      have hm4 := hM4.1
      have hgs : gsF (rcS C sd sh) (x + 1) = max (gsF (rcS C sd sh) x) (rcS C sd sh x) := rfl
      rw [e_X9_works_80]
      simp only [e_X9_works_0, e_X9_works_1, e_X9_works_4, e_X9_works_5, e_X9_works_6, e_X9_works_7, e_X9_works_8, e_X9_works_11, e_X9_works_14, e_X9_works_15, e_X9_works_18, e_X9_works_19, e_X9_works_20, e_X9_works_21, e_X9_works_24, e_X9_works_27, e_X9_works_28, e_X9_works_30, e_X9_works_31, e_X9_works_34, e_X9_works_35, e_X9_works_36, e_X9_works_37, e_X9_works_38, e_X9_works_41, e_X9_works_42, e_X9_works_43, e_X9_works_46, e_X9_works_47, e_X9_works_48, e_X9_works_49, e_X9_works_50, e_X9_works_53, e_X9_works_54, e_X9_works_55, e_X9_works_56, e_X9_works_57, e_X9_works_58, e_X9_works_59, e_X9_works_60, e_X9_works_61, e_X9_works_64, e_X9_works_65, e_X9_works_66, e_X9_works_69, e_X9_works_72, e_X9_works_73, e_X9_works_76, e_X9_works_77, e_X9_works_83, e_X9_works_84, e_X9_works_85, e_X9_works_88, e_X9_works_89, e_X9_works_90, e_X9_works_93, e_X9_works_96, e_X9_works_97, e_X9_works_100, e_X9_works_101, e_X9_works_107, e_X9_works_110, e_X9_works_113, o_const, o_iload, o_aload, o_fload, o_dload, o_istore, o_astore, o_fstore, o_dstore, o_iinc, o_bin, o_div, o_un, o_i2l, o_i2f, o_i2d, o_f2d, o_fdiv, o_ddiv, o_lcmp, o_fcmp, o_dcmp, o_if, o_if2, o_goto, o_dup, o_dupx1, o_dup2, o_pop, o_getI, o_getR, o_putI, o_putR, o_iald, o_iast, o_bald, o_bast, o_zald, o_zast, o_aald, o_aast, o_jald, o_jast, o_dald, o_dast, o_alen, o_castA, o_new, o_newa, o_callv, o_callvN, o_calli, o_calls, o_objinit, o_iret, o_zret, o_fret, o_dret, o_aret, o_vret, o_throw, o_acopy, o_bcopy, o_clone, o_tsw, o_ldcS, o_kval, o_kcoder, o_klen, o_kald, o_tald, o_getSq, o_callk, o_callvH, gl, stl, stl2, pre2, va_rf, Value.category, catS, List.length_cons, List.length_nil, List.map_cons, List.map_nil, List.sum_cons, List.sum_nil, List.take_succ_cons, List.take_zero, List.drop_succ_cons, List.drop_zero, List.reverse_cons, List.reverse_nil, List.nil_append, List.cons_append, true_and, and_true, if_true, Nat.reduceAdd, Nat.reduceLT, Nat.reduceLeDiff, hm4, gL_sW, gL_sI, gL_sR, gL_sC, gL_nW, gK_sW, gK_sI, gK_sR, gK_sC, gK_nW, gN_sW, gN_sI, gN_sR, gN_sC, gN_nW, gC_sW, gC_sI, gC_sR, gC_sC, gC_nW, gZ_sW, gZ_sI, gZ_sR, gZ_sC, gZ_nW, narI, gR_sI, gI_sIk, Nat.reduceEqDiff, false_and, and_false, if_false, and_self, g11]
      refine ⟨fun c => ?_, fun c => ⟨fun c2 => ?_, fun c2 => ?_⟩⟩
      · have ex : x = 0 := (nI_eq (b := 0) (by omega) (by decide)).mp c
        refine hmid _ _ e1 ?_
        rw [hgs]; subst ex
        show _ = nI (max 0 _)
        rw [Nat.zero_max]
      · have ex : ¬ x = 0 := fun e => c (by rw [e]; rfl)
        have i4' := i4.resolve_left ex
        rw [i4'.2] at c2
        have c3 := (nI_leI (by omega) (by omega)).mp c2
        refine hmid _ _ e1 ?_
        rw [i4'.2, hgs, Nat.max_eq_left c3]
      · have ex : ¬ x = 0 := fun e => c (by rw [e]; rfl)
        have i4' := i4.resolve_left ex
        rw [i4'.2] at c2
        have c3 : ¬ rcS C sd sh x ≤ gsF (rcS C sd sh) x := fun w => c2 (nI_le w (by omega))
        refine hmid _ _ e1 ?_
        rw [hgs, Nat.max_eq_right (by omega)]
    have hls : lsF (rcS C sd sh) (x + 1) = min (lsF (rcS C sd sh) x) (rcS C sd sh x) := rfl
    simp only [behind, e_X9_works_0, e_X9_works_1, e_X9_works_4, e_X9_works_5, e_X9_works_6, e_X9_works_7, e_X9_works_8, e_X9_works_11, e_X9_works_14, e_X9_works_15, e_X9_works_18, e_X9_works_19, e_X9_works_20, e_X9_works_21, e_X9_works_24, e_X9_works_27, e_X9_works_28, e_X9_works_30, e_X9_works_31, e_X9_works_34, e_X9_works_35, e_X9_works_36, e_X9_works_37, e_X9_works_38, e_X9_works_41, e_X9_works_42, e_X9_works_43, e_X9_works_46, e_X9_works_47, e_X9_works_48, e_X9_works_49, e_X9_works_50, e_X9_works_53, e_X9_works_54, e_X9_works_55, e_X9_works_56, e_X9_works_57, e_X9_works_58, e_X9_works_59, e_X9_works_60, e_X9_works_61, e_X9_works_64, e_X9_works_65, e_X9_works_66, e_X9_works_69, e_X9_works_72, e_X9_works_73, e_X9_works_76, e_X9_works_77, e_X9_works_83, e_X9_works_84, e_X9_works_85, e_X9_works_88, e_X9_works_89, e_X9_works_90, e_X9_works_93, e_X9_works_96, e_X9_works_97, e_X9_works_100, e_X9_works_101, e_X9_works_107, e_X9_works_110, e_X9_works_113, o_const, o_iload, o_aload, o_fload, o_dload, o_istore, o_astore, o_fstore, o_dstore, o_iinc, o_bin, o_div, o_un, o_i2l, o_i2f, o_i2d, o_f2d, o_fdiv, o_ddiv, o_lcmp, o_fcmp, o_dcmp, o_if, o_if2, o_goto, o_dup, o_dupx1, o_dup2, o_pop, o_getI, o_getR, o_putI, o_putR, o_iald, o_iast, o_bald, o_bast, o_zald, o_zast, o_aald, o_aast, o_jald, o_jast, o_dald, o_dast, o_alen, o_castA, o_new, o_newa, o_callv, o_callvN, o_calli, o_calls, o_objinit, o_iret, o_zret, o_fret, o_dret, o_aret, o_vret, o_throw, o_acopy, o_bcopy, o_clone, o_tsw, o_ldcS, o_kval, o_kcoder, o_klen, o_kald, o_tald, o_getSq, o_callk, o_callvH, gl, stl, stl2, pre2, va_rf, Value.category, catS, List.length_cons, List.length_nil, List.map_cons, List.map_nil, List.sum_cons, List.sum_nil, List.take_succ_cons, List.take_zero, List.drop_succ_cons, List.drop_zero, List.reverse_cons, List.reverse_nil, List.nil_append, List.cons_append, true_and, and_true, if_true, Nat.reduceAdd, Nat.reduceLT, Nat.reduceLeDiff, m1, m2, a1, a2, a3, a4, b1, b2, b3, b4, q0, v0, q1, v1, gL_sW, gL_sI, gL_sR, gL_sC, gL_nW, gK_sW, gK_sI, gK_sR, gK_sC, gK_nW, gN_sW, gN_sI, gN_sR, gN_sC, gN_nW, gC_sW, gC_sI, gC_sR, gC_sC, gC_nW, gZ_sW, gZ_sI, gZ_sR, gZ_sC, gZ_nW, gR_sI, gI_sIk, Nat.reduceEqDiff, false_and, and_false, if_false, r50, nI_1, hS4, hM4.1, g11, i1.1, f11]
    refine ⟨fun c => ?_, fun c => ⟨fun c2 => ?_, fun c2 => ?_⟩⟩
    · have ex : x = 0 := (nI_eq (b := 0) (by omega) (by decide)).mp c
      refine hmid2 _ ?_
      rw [hls]; subst ex
      show _ = nI (min 10230 _)
      rw [Nat.min_eq_right hc]
    · have ex : ¬ x = 0 := fun e => c (by rw [e]; rfl)
      have i4' := i4.resolve_left ex
      rw [i4'.1] at c2
      have c3 := (nI_leI (by omega) (by omega)).mp c2
      refine hmid2 _ ?_
      rw [i4'.1, hls, Nat.min_eq_left c3]
    · have ex : ¬ x = 0 := fun e => c (by rw [e]; rfl)
      have i4' := i4.resolve_left ex
      rw [i4'.1] at c2
      have c3 : ¬ lsF (rcS C sd sh) x ≤ rcS C sd sh x := fun w => c2 (nI_le w (by omega))
      refine hmid2 _ ?_
      rw [hls, Nat.min_eq_right (by omega)]
theorem sp_mWorks (hM : MS S m ad) (hR : RowR (gI S 40 (ad 0)) 0 C) (hV : SetV (sSet C)) (hz : sNoi C ≤ 65535) (hT : ∀ k, k < aWm (sSet C) → sTab C k ≤ 1023) {sd sh : Int32} (h20 : gI S 11 m 20 = sd) (h21 : gI S 11 m 21 = sh)
    (h : ∀ S', MS S' m ad → (∀ j, gI S' 40 (ad 0) j = gI S 40 (ad 0) j) → (∀ j, ¬ j = 25 → ¬ j = 26 → gI S' 11 m j = gI S 11 m j) → MRamp S' m ad (rgN C) (rcS C sd sh) → Fr S S' (fun t a => (t = 11 ∧ a = m) ∨ t = 40 ∨ (45 ≤ t ∧ t ≤ 50)) 0 0 → Q (.inl none) S') : WG ks (d + 3) n_X9_works [.ref m] S Q := by
  refine ⟨by simp [cat1, Value.category], by show (1 : Nat) ≤ 4; decide, ?_⟩
  show Run ks (WG ks (d + 2)) Q tb_X9_works 0 [some (.ref m), none, none, none] [] S
  have hm := hM.1
  have hrg := rgN_le hV
  simp only [e_X9_works_0, e_X9_works_1, e_X9_works_4, e_X9_works_5, e_X9_works_6, e_X9_works_8, e_X9_works_11, e_X9_works_14, e_X9_works_15, e_X9_works_18, e_X9_works_19, e_X9_works_20, e_X9_works_21, e_X9_works_24, e_X9_works_28, e_X9_works_30, e_X9_works_31, e_X9_works_34, e_X9_works_35, e_X9_works_36, e_X9_works_37, e_X9_works_38, e_X9_works_41, e_X9_works_42, e_X9_works_43, e_X9_works_46, e_X9_works_47, e_X9_works_48, e_X9_works_49, e_X9_works_50, e_X9_works_53, e_X9_works_54, e_X9_works_55, e_X9_works_56, e_X9_works_57, e_X9_works_58, e_X9_works_59, e_X9_works_60, e_X9_works_61, e_X9_works_64, e_X9_works_65, e_X9_works_66, e_X9_works_69, e_X9_works_72, e_X9_works_73, e_X9_works_76, e_X9_works_77, e_X9_works_83, e_X9_works_84, e_X9_works_85, e_X9_works_88, e_X9_works_89, e_X9_works_90, e_X9_works_93, e_X9_works_96, e_X9_works_97, e_X9_works_100, e_X9_works_101, e_X9_works_107, e_X9_works_110, e_X9_works_113, o_const, o_iload, o_aload, o_fload, o_dload, o_istore, o_astore, o_fstore, o_dstore, o_iinc, o_bin, o_div, o_un, o_i2l, o_i2f, o_i2d, o_f2d, o_fdiv, o_ddiv, o_lcmp, o_fcmp, o_dcmp, o_if, o_if2, o_goto, o_dup, o_dupx1, o_dup2, o_pop, o_getI, o_getR, o_putI, o_putR, o_iald, o_iast, o_bald, o_bast, o_zald, o_zast, o_aald, o_aast, o_jald, o_jast, o_dald, o_dast, o_alen, o_castA, o_new, o_newa, o_callv, o_callvN, o_calli, o_calls, o_objinit, o_iret, o_zret, o_fret, o_dret, o_aret, o_vret, o_throw, o_acopy, o_bcopy, o_clone, o_tsw, o_ldcS, o_kval, o_kcoder, o_klen, o_kald, o_tald, o_getSq, o_callk, o_callvH, gl, stl, stl2, pre2, va_rf, Value.category, catS, List.length_cons, List.length_nil, List.map_cons, List.map_nil, List.sum_cons, List.sum_nil, List.take_succ_cons, List.take_zero, List.drop_succ_cons, List.drop_zero, List.reverse_cons, List.reverse_nil, List.nil_append, List.cons_append, true_and, and_true, if_true, Nat.reduceAdd, Nat.reduceLT, Nat.reduceLeDiff, hm]
  refine ⟨⟨m, _, rfl, rfl, hm⟩, sp_mRange hM hR hV ?_⟩
  simp only [behind, e_X9_works_0, e_X9_works_1, e_X9_works_4, e_X9_works_5, e_X9_works_6, e_X9_works_8, e_X9_works_11, e_X9_works_14, e_X9_works_15, e_X9_works_18, e_X9_works_19, e_X9_works_20, e_X9_works_21, e_X9_works_24, e_X9_works_28, e_X9_works_30, e_X9_works_31, e_X9_works_34, e_X9_works_35, e_X9_works_36, e_X9_works_37, e_X9_works_38, e_X9_works_41, e_X9_works_42, e_X9_works_43, e_X9_works_46, e_X9_works_47, e_X9_works_48, e_X9_works_49, e_X9_works_50, e_X9_works_53, e_X9_works_54, e_X9_works_55, e_X9_works_56, e_X9_works_57, e_X9_works_58, e_X9_works_59, e_X9_works_60, e_X9_works_61, e_X9_works_64, e_X9_works_65, e_X9_works_66, e_X9_works_69, e_X9_works_72, e_X9_works_73, e_X9_works_76, e_X9_works_77, e_X9_works_83, e_X9_works_84, e_X9_works_85, e_X9_works_88, e_X9_works_89, e_X9_works_90, e_X9_works_93, e_X9_works_96, e_X9_works_97, e_X9_works_100, e_X9_works_101, e_X9_works_107, e_X9_works_110, e_X9_works_113, o_const, o_iload, o_aload, o_fload, o_dload, o_istore, o_astore, o_fstore, o_dstore, o_iinc, o_bin, o_div, o_un, o_i2l, o_i2f, o_i2d, o_f2d, o_fdiv, o_ddiv, o_lcmp, o_fcmp, o_dcmp, o_if, o_if2, o_goto, o_dup, o_dupx1, o_dup2, o_pop, o_getI, o_getR, o_putI, o_putR, o_iald, o_iast, o_bald, o_bast, o_zald, o_zast, o_aald, o_aast, o_jald, o_jast, o_dald, o_dast, o_alen, o_castA, o_new, o_newa, o_callv, o_callvN, o_calli, o_calls, o_objinit, o_iret, o_zret, o_fret, o_dret, o_aret, o_vret, o_throw, o_acopy, o_bcopy, o_clone, o_tsw, o_ldcS, o_kval, o_kcoder, o_klen, o_kald, o_tald, o_getSq, o_callk, o_callvH, gl, stl, stl2, pre2, va_rf, Value.category, catS, List.length_cons, List.length_nil, List.map_cons, List.map_nil, List.sum_cons, List.sum_nil, List.take_succ_cons, List.take_zero, List.drop_succ_cons, List.drop_zero, List.reverse_cons, List.reverse_nil, List.nil_append, List.cons_append, true_and, and_true, if_true, Nat.reduceAdd, Nat.reduceLT, Nat.reduceLeDiff]
  refine sp_mWz_lp hM ?_ 10231 0 S (by decide) hM (fun j hj => absurd hj (Nat.not_lt_zero j)) ((Fr.rf S).mono (fun _ _ _ w => w.elim) (by decide) (by decide))
  intro S1 hM1 hz1 F1
  have e40 := (F1.2.1 40 (ad 0) hM.2.1.2.1 (fun w => by omega)).1
  have e11 := (F1.2.1 11 m hM.1.1 (fun w => by omega)).1
  rw [e_X9_works_27]
  simp only [e_X9_works_0, e_X9_works_1, e_X9_works_4, e_X9_works_5, e_X9_works_6, e_X9_works_8, e_X9_works_11, e_X9_works_14, e_X9_works_15, e_X9_works_18, e_X9_works_19, e_X9_works_20, e_X9_works_21, e_X9_works_24, e_X9_works_28, e_X9_works_30, e_X9_works_31, e_X9_works_34, e_X9_works_35, e_X9_works_36, e_X9_works_37, e_X9_works_38, e_X9_works_41, e_X9_works_42, e_X9_works_43, e_X9_works_46, e_X9_works_47, e_X9_works_48, e_X9_works_49, e_X9_works_50, e_X9_works_53, e_X9_works_54, e_X9_works_55, e_X9_works_56, e_X9_works_57, e_X9_works_58, e_X9_works_59, e_X9_works_60, e_X9_works_61, e_X9_works_64, e_X9_works_65, e_X9_works_66, e_X9_works_69, e_X9_works_72, e_X9_works_73, e_X9_works_76, e_X9_works_77, e_X9_works_83, e_X9_works_84, e_X9_works_85, e_X9_works_88, e_X9_works_89, e_X9_works_90, e_X9_works_93, e_X9_works_96, e_X9_works_97, e_X9_works_100, e_X9_works_101, e_X9_works_107, e_X9_works_110, e_X9_works_113, o_const, o_iload, o_aload, o_fload, o_dload, o_istore, o_astore, o_fstore, o_dstore, o_iinc, o_bin, o_div, o_un, o_i2l, o_i2f, o_i2d, o_f2d, o_fdiv, o_ddiv, o_lcmp, o_fcmp, o_dcmp, o_if, o_if2, o_goto, o_dup, o_dupx1, o_dup2, o_pop, o_getI, o_getR, o_putI, o_putR, o_iald, o_iast, o_bald, o_bast, o_zald, o_zast, o_aald, o_aast, o_jald, o_jast, o_dald, o_dast, o_alen, o_castA, o_new, o_newa, o_callv, o_callvN, o_calli, o_calls, o_objinit, o_iret, o_zret, o_fret, o_dret, o_aret, o_vret, o_throw, o_acopy, o_bcopy, o_clone, o_tsw, o_ldcS, o_kval, o_kcoder, o_klen, o_kald, o_tald, o_getSq, o_callk, o_callvH, gl, stl, stl2, pre2, va_rf, Value.category, catS, List.length_cons, List.length_nil, List.map_cons, List.map_nil, List.sum_cons, List.sum_nil, List.take_succ_cons, List.take_zero, List.drop_succ_cons, List.drop_zero, List.reverse_cons, List.reverse_nil, List.nil_append, List.cons_append, true_and, and_true, if_true, Nat.reduceAdd, Nat.reduceLT, Nat.reduceLeDiff]
  refine sp_mWk_lp (S := S) hM hR hV hz hT h20 h21 hrg ?_ (rgN C + 1) 0 S1 none (by omega) ⟨hM1, fun j => by rw [e40], fun j _ _ => by rw [e11], Or.inl rfl, fun y hy => absurd hy (Nat.not_lt_zero y), fun c hc => hz1 c hc, F1.mono (fun t a _ w => by omega) (by decide) (by decide)⟩
  intro S' hI
  obtain ⟨i1, i2, i3, i4, i5, i6, i7⟩ := hI
  exact h S' i1 i2 i3 ⟨i4.resolve_left (by omega), fun x hx => i5 x (by omega), i6⟩ i7
end SPS
