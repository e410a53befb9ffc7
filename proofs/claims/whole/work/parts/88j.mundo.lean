/-! THE MODEL: undo, a fresh row -/
section SPS
variable {ks : Nat → Nat} {d : Nat} {Q : QP} {S : M9} {m M tl hn wn : Nat} {ad : Nat → Nat} {T Wt : Nat → Int32} {eA : Int32} {H : Nat → CSt} {C : CSt} {s0 s1 : CSl}
theorem sp_mUndo_lp (hM : MS S m ad) {n q : Nat} (hn1 : n ≤ 10000) (hq : q ≤ 7) (g5 : gI S 11 m 5 = nI q)
    (h : ∀ S', MS S' m ad → (∀ j, j < 691 + 2 * n → gI S' 40 (ad 0) j = gI S 41 (ad 1) (21153 * q + j)) → Fr S S' (fun t a => t = 40 ∧ a = ad 0) 0 0 → Q (.inl (some (.int (nI q)))) S') :
    ∀ r k S', k + r = 691 + 2 * n → MS S' m ad → (∀ j, j < k → gI S' 40 (ad 0) j = gI S 41 (ad 1) (21153 * q + j)) → Fr S S' (fun t a => t = 40 ∧ a = ad 0) 0 0 →
      Run ks (WG ks d) Q tb_X9_undo 59 [some (.ref m), some (.int (nI (691 + 2 * n))), some (.int (nI k))] [] S' := by
  intro r
  have h0m := hM.1.1
  have h1a := hM.2.2.1.2.1
  induction r with
  | zero =>
    intro k S' hk hM' hg hF
    have e : k = 691 + 2 * n := by omega
    subst e
    have hMc := hM'
    obtain ⟨⟨m1, m2⟩, -⟩ := hMc
    have e5 := (hF.2.1 11 m h0m (fun w => absurd w.1 (by decide))).1
    rw [e_X9_undo_59]
    simp only [e_X9_undo_0, e_X9_undo_1, e_X9_undo_2, e_X9_undo_5, e_X9_undo_8, e_X9_undo_9, e_X9_undo_12, e_X9_undo_13, e_X9_undo_16, e_X9_undo_17, e_X9_undo_20, e_X9_undo_23, e_X9_undo_24, e_X9_undo_25, e_X9_undo_26, e_X9_undo_27, e_X9_undo_30, e_X9_undo_31, e_X9_undo_32, e_X9_undo_35, e_X9_undo_38, e_X9_undo_39, e_X9_undo_40, e_X9_undo_43, e_X9_undo_46, e_X9_undo_47, e_X9_undo_50, e_X9_undo_51, e_X9_undo_52, e_X9_undo_53, e_X9_undo_54, e_X9_undo_55, e_X9_undo_56, e_X9_undo_57, e_X9_undo_58, e_X9_undo_60, e_X9_undo_61, e_X9_undo_64, e_X9_undo_65, e_X9_undo_68, e_X9_undo_69, e_X9_undo_70, e_X9_undo_73, e_X9_undo_76, e_X9_undo_77, e_X9_undo_80, e_X9_undo_81, e_X9_undo_82, e_X9_undo_83, e_X9_undo_84, e_X9_undo_85, e_X9_undo_88, e_X9_undo_91, e_X9_undo_92, e_X9_undo_95, o_const, o_iload, o_aload, o_fload, o_dload, o_istore, o_astore, o_fstore, o_dstore, o_iinc, o_bin, o_div, o_un, o_i2l, o_i2f, o_i2d, o_f2d, o_fdiv, o_ddiv, o_lcmp, o_fcmp, o_dcmp, o_if, o_if2, o_goto, o_dup, o_dupx1, o_dup2, o_pop, o_getI, o_getR, o_putI, o_putR, o_iald, o_iast, o_bald, o_bast, o_zald, o_zast, o_aald, o_aast, o_jald, o_jast, o_dald, o_dast, o_alen, o_castA, o_new, o_newa, o_callv, o_callvN, o_calli, o_calls, o_objinit, o_iret, o_zret, o_fret, o_dret, o_aret, o_vret, o_throw, o_acopy, o_bcopy, o_clone, o_tsw, o_ldcS, o_kval, o_kcoder, o_klen, o_kald, o_tald, o_getSq, o_callk, o_callvH, gl, stl, stl2, pre2, va_rf, Value.category, catS, List.length_cons, List.length_nil, List.map_cons, List.map_nil, List.sum_cons, List.sum_nil, List.take_succ_cons, List.take_zero, List.drop_succ_cons, List.drop_zero, List.reverse_cons, List.reverse_nil, List.nil_append, List.cons_append, true_and, and_true, if_true, Nat.reduceAdd, Nat.reduceLT, Nat.reduceLeDiff, m1, m2, e5, g5]
    exact ⟨fun _ => h S' hM' hg hF, fun c => absurd (nI_le (Nat.le_refl _) (by omega)) c⟩
  | succ r ih =>
    intro k S' hk hM' hg hF
    have hMc := hM'
    obtain ⟨⟨m1, m2⟩, ⟨b1, b2, b3, b4⟩, ⟨a1, a2, a3, a4⟩, -⟩ := hMc
    have e5 := (hF.2.1 11 m h0m (fun w => absurd w.1 (by decide))).1
    have e1 := (hF.2.1 41 (ad 1) h1a (fun w => absurd w.1 (by decide))).1
    have ek : (21153 : Int32) * nI q + nI k = nI (21153 * q + k) := by rw [show (21153 : Int32) = nI 21153 from rfl, pk_mul, nI_add]
    have c1 : (nI (21153 * q + k)).toNatClampNeg = 21153 * q + k := nI_clamp (by omega)
    have c2 : (nI k).toNatClampNeg = k := nI_clamp (by omega)
    rw [e_X9_undo_59]
    simp only [e_X9_undo_0, e_X9_undo_1, e_X9_undo_2, e_X9_undo_5, e_X9_undo_8, e_X9_undo_9, e_X9_undo_12, e_X9_undo_13, e_X9_undo_16, e_X9_undo_17, e_X9_undo_20, e_X9_undo_23, e_X9_undo_24, e_X9_undo_25, e_X9_undo_26, e_X9_undo_27, e_X9_undo_30, e_X9_undo_31, e_X9_undo_32, e_X9_undo_35, e_X9_undo_38, e_X9_undo_39, e_X9_undo_40, e_X9_undo_43, e_X9_undo_46, e_X9_undo_47, e_X9_undo_50, e_X9_undo_51, e_X9_undo_52, e_X9_undo_53, e_X9_undo_54, e_X9_undo_55, e_X9_undo_56, e_X9_undo_57, e_X9_undo_58, e_X9_undo_60, e_X9_undo_61, e_X9_undo_64, e_X9_undo_65, e_X9_undo_68, e_X9_undo_69, e_X9_undo_70, e_X9_undo_73, e_X9_undo_76, e_X9_undo_77, e_X9_undo_80, e_X9_undo_81, e_X9_undo_82, e_X9_undo_83, e_X9_undo_84, e_X9_undo_85, e_X9_undo_88, e_X9_undo_91, e_X9_undo_92, e_X9_undo_95, o_const, o_iload, o_aload, o_fload, o_dload, o_istore, o_astore, o_fstore, o_dstore, o_iinc, o_bin, o_div, o_un, o_i2l, o_i2f, o_i2d, o_f2d, o_fdiv, o_ddiv, o_lcmp, o_fcmp, o_dcmp, o_if, o_if2, o_goto, o_dup, o_dupx1, o_dup2, o_pop, o_getI, o_getR, o_putI, o_putR, o_iald, o_iast, o_bald, o_bast, o_zald, o_zast, o_aald, o_aast, o_jald, o_jast, o_dald, o_dast, o_alen, o_castA, o_new, o_newa, o_callv, o_callvN, o_calli, o_calls, o_objinit, o_iret, o_zret, o_fret, o_dret, o_aret, o_vret, o_throw, o_acopy, o_bcopy, o_clone, o_tsw, o_ldcS, o_kval, o_kcoder, o_klen, o_kald, o_tald, o_getSq, o_callk, o_callvH, gl, stl, stl2, pre2, va_rf, Value.category, catS, List.length_cons, List.length_nil, List.map_cons, List.map_nil, List.sum_cons, List.sum_nil, List.take_succ_cons, List.take_zero, List.drop_succ_cons, List.drop_zero, List.reverse_cons, List.reverse_nil, List.nil_append, List.cons_append, true_and, and_true, if_true, Nat.reduceAdd, Nat.reduceLT, Nat.reduceLeDiff, m1, m2, a1, a2, a3, a4, b1, b2, b3, b4, e5, g5, ek, c1, c2, e1, nI_1]
    have F2 := Fr.sI S' 40 (ad 0) k (gI S 41 (ad 1) (21153 * q + k))
    refine ⟨fun c => absurd ((nI_leI (by omega) (by omega)).mp c) (by omega), fun _ => ⟨vp_in_nI (by omega) (by decide), vp_in_nI (by omega) (by decide), ih (k + 1) _ (by omega) (hM'.fr F2 (by rw [gR_sI])) (fun j hj => ?_) ((hF.trans F2).mono (fun _ _ _ w => w.elim id id) (by decide) (by decide))⟩⟩
    rw [gI_sIk]
    by_cases e : j = k
    · rw [if_pos ⟨rfl, rfl, e⟩, e]
    · rw [if_neg (fun w => e w.2.2)]
      exact hg j (by omega)
theorem sp_mUndo (hM : MoR S m ad tl T eA hn H C wn Wt s0 s1) (hM9 : M ≤ 9900) (hVH : ∀ i, i < hn → VC M (H i))
    (h1 : ∀ S', 0 < hn → MoR S' m ad tl T eA (hn - 1) (fun i => H (i + 1)) (H 0) wn Wt s0 s1 → gI S' 11 m 6 = 0 → Fr S S' (fun t _ => nM t) 0 0 → Q (.inl (some (.int (nI (hn - 1))))) S')
    (h0 : ∀ S' v, hn = 0 → MoR S' m ad tl T eA hn H C wn Wt s0 s1 → gI S' 11 m 6 = 1 → Fr S S' (fun t _ => nM t) 0 0 → Q (.inl (some (.int v))) S') : WG ks (d + 1) n_X9_undo [.ref m] S Q := by
  refine ⟨by simp [cat1, Value.category], by show (1 : Nat) ≤ 3; decide, ?_⟩
  show Run ks (WG ks d) Q tb_X9_undo 0 [some (.ref m), none, none] [] S
  have hMc := hM
  obtain ⟨hMS, hR, ⟨x1, x2, x3⟩, hT, hW, hs0, hs1⟩ := hMc
  have hMSc := hMS
  obtain ⟨⟨m1, m2⟩, ⟨b1, b2, b3, b4⟩, ⟨a1, a2, a3, a4⟩, -⟩ := hMSc
  simp only [e_X9_undo_0, e_X9_undo_1, e_X9_undo_2, e_X9_undo_5, e_X9_undo_8, e_X9_undo_9, e_X9_undo_12, e_X9_undo_13, e_X9_undo_16, e_X9_undo_17, e_X9_undo_20, e_X9_undo_23, e_X9_undo_24, e_X9_undo_25, e_X9_undo_26, e_X9_undo_27, e_X9_undo_30, e_X9_undo_31, e_X9_undo_32, e_X9_undo_35, e_X9_undo_38, e_X9_undo_39, e_X9_undo_40, e_X9_undo_43, e_X9_undo_46, e_X9_undo_47, e_X9_undo_50, e_X9_undo_51, e_X9_undo_52, e_X9_undo_53, e_X9_undo_54, e_X9_undo_55, e_X9_undo_56, e_X9_undo_57, e_X9_undo_58, e_X9_undo_60, e_X9_undo_61, e_X9_undo_64, e_X9_undo_65, e_X9_undo_68, e_X9_undo_69, e_X9_undo_70, e_X9_undo_73, e_X9_undo_76, e_X9_undo_77, e_X9_undo_80, e_X9_undo_81, e_X9_undo_82, e_X9_undo_83, e_X9_undo_84, e_X9_undo_85, e_X9_undo_88, e_X9_undo_91, e_X9_undo_92, e_X9_undo_95, o_const, o_iload, o_aload, o_fload, o_dload, o_istore, o_astore, o_fstore, o_dstore, o_iinc, o_bin, o_div, o_un, o_i2l, o_i2f, o_i2d, o_f2d, o_fdiv, o_ddiv, o_lcmp, o_fcmp, o_dcmp, o_if, o_if2, o_goto, o_dup, o_dupx1, o_dup2, o_pop, o_getI, o_getR, o_putI, o_putR, o_iald, o_iast, o_bald, o_bast, o_zald, o_zast, o_aald, o_aast, o_jald, o_jast, o_dald, o_dast, o_alen, o_castA, o_new, o_newa, o_callv, o_callvN, o_calli, o_calls, o_objinit, o_iret, o_zret, o_fret, o_dret, o_aret, o_vret, o_throw, o_acopy, o_bcopy, o_clone, o_tsw, o_ldcS, o_kval, o_kcoder, o_klen, o_kald, o_tald, o_getSq, o_callk, o_callvH, gl, stl, stl2, pre2, va_rf, Value.category, catS, List.length_cons, List.length_nil, List.map_cons, List.map_nil, List.sum_cons, List.sum_nil, List.take_succ_cons, List.take_zero, List.drop_succ_cons, List.drop_zero, List.reverse_cons, List.reverse_nil, List.nil_append, List.cons_append, true_and, and_true, if_true, Nat.reduceAdd, Nat.reduceLT, Nat.reduceLeDiff, m1, m2, x2, gL_sW, gL_sI, gL_sR, gL_sC, gL_nW, gK_sW, gK_sI, gK_sR, gK_sC, gK_nW, gN_sW, gN_sI, gN_sR, gN_sC, gN_nW, gC_sW, gC_sI, gC_sR, gC_sC, gC_nW, gZ_sW, gZ_sI, gZ_sR, gZ_sC, gZ_nW, narI, gR_sI, gI_sIk, Nat.reduceEqDiff, false_and, and_false, if_false, and_self, a1, a2, a3, a4]
  refine ⟨fun c => ?_, fun c => ?_⟩
  · have hne : ¬ hn = 0 := fun e => c (by rw [e]; rfl)
    have hq : nI hn - 1 = nI (hn - 1) := pk_sub (b := 1) (by omega)
    have hv := hVH 0 (by omega)
    have hn1 : (sSn (H 0)).1 ≤ 9900 := Nat.le_trans hv.2.2.1.2.2.1 hM9
    have hrow := x3 0 (by omega)
    rw [Nat.sub_zero] at hrow
    have ek : (21153 : Int32) * nI (hn - 1) + 4 = nI (21153 * (hn - 1) + 4) := by rw [show (21153 : Int32) = nI 21153 from rfl, pk_mul, show (4 : Int32) = nI 4 from rfl, nI_add]
    have c1 : (nI (21153 * (hn - 1) + 4)).toNatClampNeg = 21153 * (hn - 1) + 4 := nI_clamp (by omega)
    rw [hq]
    simp only [ek, c1, hrow.1.2.2.2.2, e691]
    refine ⟨fun _ => ⟨vp_in_nI (by omega) (by decide), ?_⟩, fun c9 => absurd (by decide) c9⟩
    have F1 := (Fr.sI S 11 m 6 0).trans (Fr.sI (sI S 11 m 6 0) 11 m 5 (nI (hn - 1)))
    have hM1 := hMS.fr F1 (by rw [gR_sI, gR_sI])
    have g41 : gI (sI (sI S 11 m 6 0) 11 m 5 (nI (hn - 1))) 41 (ad 1) = gI S 41 (ad 1) := (F1.2.1 41 _ a2 (fun w => by omega)).1
    refine sp_mUndo_lp (n := (sSn (H 0)).1) (q := hn - 1) hM1 (by omega) (by omega) (by rw [gI_sIk, if_pos ⟨rfl, rfl, rfl⟩]) ?_ (691 + 2 * (sSn (H 0)).1) 0 _ (by omega) hM1 (fun j hj => absurd hj (Nat.not_lt_zero j)) ((Fr.rf _).mono (fun _ _ _ w => w.elim) (by decide) (by decide))
    intro S' hM' hg F2
    have FF := F1.trans F2
    have ej : ∀ j, ¬ j = 5 → ¬ j = 6 → gI S' 11 m j = gI S 11 m j := fun j h5 h6 => by
      rw [(F2.2.1 11 m hM1.1.1 (fun w => absurd w.1 (by decide))).1, gI_sIk, if_neg (fun w => h5 w.2.2), gI_sIk, if_neg (fun w => h6 w.2.2)]
    have e5 : gI S' 11 m 5 = nI (hn - 1) := by rw [(F2.2.1 11 m hM1.1.1 (fun w => absurd w.1 (by decide))).1, gI_sIk, if_pos ⟨rfl, rfl, rfl⟩]
    have e6 : gI S' 11 m 6 = 0 := by rw [(F2.2.1 11 m hM1.1.1 (fun w => absurd w.1 (by decide))).1, gI_sIk, if_neg (fun w => by omega), gI_sIk, if_pos ⟨rfl, rfl, rfl⟩]
    obtain ⟨-, -, ⟨-, y1, -⟩, -, ⟨-, y3, -⟩, ⟨-, y4, -⟩, ⟨-, y7, -⟩, -, -, -, -, -, -, ⟨-, y27, -⟩⟩ := hMS
    have q1 := fun t a (w : t = 16 ∨ t = 41 ∨ t = 43 ∨ t = 44 ∨ t = 51) (x : a ∈ gL S) => (FF.2.1 t a x (fun w => by omega)).1
    have f1 := q1 41 _ (by decide) y1
    have f3 := q1 43 _ (by decide) y3
    have f4 := q1 16 _ (by decide) y4
    have f7 := q1 44 _ (by decide) y7
    have f27 := q1 51 _ (by decide) y27
    refine h1 S' (by omega) ⟨hM', RowR.cp hrow hv.1 hv.2.1.1 (fun j hj => by rw [Nat.zero_add, hg j hj, g41]), ⟨by omega, e5, fun i hi => ?_⟩, ?_, ?_, ?_, ?_⟩ e6 (FF.toM (fun t a w => by unfold nM; omega))
    · rw [f1]
      have := x3 (i + 1) (by omega)
      rw [show hn - 1 - (i + 1) = hn - 1 - 1 - i by omega] at this
      exact this
    · obtain ⟨b1, b2, b3, b4, b5⟩ := hT
      exact ⟨b1, by rw [ej 8 (by decide) (by decide)]; exact b2, by rw [f7]; exact b3, by rw [ej 16 (by decide) (by decide)]; exact b4, by rw [ej 20 (by decide) (by decide)]; exact b5⟩
    · obtain ⟨c1, c2, c3⟩ := hW
      exact ⟨c1, by rw [ej 28 (by decide) (by decide)]; exact c2, by rw [f27]; exact c3⟩
    · obtain ⟨d1, d2, d3⟩ := hs0
      exact ⟨d1, by rw [f4]; exact d2, by rw [f3]; exact d3⟩
    · obtain ⟨d1, d2, d3⟩ := hs1
      exact ⟨d1, by rw [f4]; exact d2, by rw [f3]; exact d3⟩
  · have e0 : hn = 0 := (nI_eq (b := 0) (by omega) (by decide)).mp (Classical.not_not.mp c)
    refine ⟨fun c9 => absurd c9 (by decide), fun _ => h0 _ _ e0 (hM.f (by decide)) (by rw [gI_sIk, if_pos ⟨rfl, rfl, rfl⟩]) (nM_fr S)⟩
/-- the row that a text becomes -/
def FrR (g : Nat → Int32) (A : ASet) : Prop := (g 0 = nI (aCm A) ∧ g 1 = nI (aWm A) ∧ g 2 = nI (aSd A)) ∧ (aCm A ≤ 3 ∧ aWm A ≤ 10) ∧ (∀ k, k < aCm A → g (5 + k) = aOf A k ∧ g (8 + k) = nI (aAm A k)) ∧ (∀ k, k < aWm A → g (11 + k) = nI (aTo A k) ∧ g (21 + k) = nI (aAc A k) ∧ g (31 + k) = nI (aUs A k))
theorem FrR.row {g f : Nat → Int32} {A : ASet} {C : CSt} (h : FrR f A) (h0 : ∀ j, j < 3 ∨ (5 ≤ j ∧ j < 41) → g j = f j) (h3 : g 3 = 0) (h4 : g 4 = 0) (h5 : ∀ k, k < 10 → g (41 + k) = f (11 + k)) : RowR g 0 (bgn C A) := by
  obtain ⟨⟨a1, a2, a3⟩, ⟨b1, b2⟩, h6, h7⟩ := h
  refine ⟨⟨(h0 0 (by omega)).trans a1, (h0 1 (by omega)).trans a2, (h0 2 (by omega)).trans a3, h3, h4⟩, fun k hk => ?_, fun k hk => ?_, fun b hb => absurd hb (Nat.not_lt_zero b), fun k hk => absurd hk (Nat.not_lt_zero k)⟩
  · have hk2 : k < aCm A := hk
    simp only [Nat.zero_add]
    exact ⟨(h0 _ (by omega)).trans (h6 k hk2).1, (h0 _ (by omega)).trans (h6 k hk2).2⟩
  · have hk2 : k < aWm A := hk
    simp only [Nat.zero_add]
    exact ⟨(h0 _ (by omega)).trans (h7 k hk2).1, (h0 _ (by omega)).trans (h7 k hk2).2.1, (h0 _ (by omega)).trans (h7 k hk2).2.2, (h5 k (by omega)).trans (h7 k hk2).1⟩
theorem sp_mFresh_lp2 (hM : MS S m ad) {f : Nat → Int32} (hf : ∀ j, j < 51 → gI S 40 (ad 0) j = f j)
    (h : ∀ S', MS S' m ad → (∀ j, j < 41 → gI S' 40 (ad 0) j = f j) → (∀ j, j < 10 → gI S' 40 (ad 0) (41 + j) = f (11 + j)) → Fr S S' (fun t a => t = 40 ∧ a = ad 0) 0 0 → Run ks (WG ks d) Q tb_X9_becomesFresh 58 [some (.ref m), some (.int (nI 10))] [] S') :
    ∀ r k S', k + r = 10 → MS S' m ad → (∀ j, j < 41 → gI S' 40 (ad 0) j = f j) → (∀ j, j < k → gI S' 40 (ad 0) (41 + j) = f (11 + j)) → Fr S S' (fun t a => t = 40 ∧ a = ad 0) 0 0 →
      Run ks (WG ks d) Q tb_X9_becomesFresh 28 [some (.ref m), some (.int (nI k))] [] S' := by
  intro r
  induction r with
  | zero =>
    intro k S' hk hM' hg1 hg2 hF
    have e : k = 10 := by omega
    subst e
    rw [e_X9_becomesFresh_28]
    simp only [e_X9_becomesFresh_0, e_X9_becomesFresh_1, e_X9_becomesFresh_2, e_X9_becomesFresh_3, e_X9_becomesFresh_5, e_X9_becomesFresh_8, e_X9_becomesFresh_9, e_X9_becomesFresh_12, e_X9_becomesFresh_13, e_X9_becomesFresh_14, e_X9_becomesFresh_17, e_X9_becomesFresh_18, e_X9_becomesFresh_19, e_X9_becomesFresh_20, e_X9_becomesFresh_23, e_X9_becomesFresh_26, e_X9_becomesFresh_27, e_X9_becomesFresh_29, e_X9_becomesFresh_31, e_X9_becomesFresh_34, e_X9_becomesFresh_35, e_X9_becomesFresh_38, e_X9_becomesFresh_40, e_X9_becomesFresh_41, e_X9_becomesFresh_42, e_X9_becomesFresh_43, e_X9_becomesFresh_46, e_X9_becomesFresh_48, e_X9_becomesFresh_49, e_X9_becomesFresh_50, e_X9_becomesFresh_51, e_X9_becomesFresh_52, e_X9_becomesFresh_55, e_X9_becomesFresh_59, e_X9_becomesFresh_62, e_X9_becomesFresh_63, e_X9_becomesFresh_64, e_X9_becomesFresh_65, e_X9_becomesFresh_66, e_X9_becomesFresh_69, e_X9_becomesFresh_70, e_X9_becomesFresh_71, e_X9_becomesFresh_72, o_const, o_iload, o_aload, o_fload, o_dload, o_istore, o_astore, o_fstore, o_dstore, o_iinc, o_bin, o_div, o_un, o_i2l, o_i2f, o_i2d, o_f2d, o_fdiv, o_ddiv, o_lcmp, o_fcmp, o_dcmp, o_if, o_if2, o_goto, o_dup, o_dupx1, o_dup2, o_pop, o_getI, o_getR, o_putI, o_putR, o_iald, o_iast, o_bald, o_bast, o_zald, o_zast, o_aald, o_aast, o_jald, o_jast, o_dald, o_dast, o_alen, o_castA, o_new, o_newa, o_callv, o_callvN, o_calli, o_calls, o_objinit, o_iret, o_zret, o_fret, o_dret, o_aret, o_vret, o_throw, o_acopy, o_bcopy, o_clone, o_tsw, o_ldcS, o_kval, o_kcoder, o_klen, o_kald, o_tald, o_getSq, o_callk, o_callvH, gl, stl, stl2, pre2, va_rf, Value.category, catS, List.length_cons, List.length_nil, List.map_cons, List.map_nil, List.sum_cons, List.sum_nil, List.take_succ_cons, List.take_zero, List.drop_succ_cons, List.drop_zero, List.reverse_cons, List.reverse_nil, List.nil_append, List.cons_append, true_and, and_true, if_true, Nat.reduceAdd, Nat.reduceLT, Nat.reduceLeDiff]
    exact ⟨fun _ => h S' hM' hg1 hg2 hF, fun c => absurd (by decide) c⟩
  | succ r ih =>
    intro k S' hk hM' hg1 hg2 hF
    have hMc := hM'
    obtain ⟨⟨m1, m2⟩, ⟨b1, b2, b3, b4⟩, -⟩ := hMc
    have e1 : (41 : Int32) + nI k = nI (41 + k) := by rw [show (41 : Int32) = nI 41 from rfl, nI_add]
    have e2 : (11 : Int32) + nI k = nI (11 + k) := by rw [show (11 : Int32) = nI 11 from rfl, nI_add]
    have c1 : (nI (41 + k)).toNatClampNeg = 41 + k := nI_clamp (by omega)
    have c2 : (nI (11 + k)).toNatClampNeg = 11 + k := nI_clamp (by omega)
    rw [e_X9_becomesFresh_28]
    simp only [e_X9_becomesFresh_0, e_X9_becomesFresh_1, e_X9_becomesFresh_2, e_X9_becomesFresh_3, e_X9_becomesFresh_5, e_X9_becomesFresh_8, e_X9_becomesFresh_9, e_X9_becomesFresh_12, e_X9_becomesFresh_13, e_X9_becomesFresh_14, e_X9_becomesFresh_17, e_X9_becomesFresh_18, e_X9_becomesFresh_19, e_X9_becomesFresh_20, e_X9_becomesFresh_23, e_X9_becomesFresh_26, e_X9_becomesFresh_27, e_X9_becomesFresh_29, e_X9_becomesFresh_31, e_X9_becomesFresh_34, e_X9_becomesFresh_35, e_X9_becomesFresh_38, e_X9_becomesFresh_40, e_X9_becomesFresh_41, e_X9_becomesFresh_42, e_X9_becomesFresh_43, e_X9_becomesFresh_46, e_X9_becomesFresh_48, e_X9_becomesFresh_49, e_X9_becomesFresh_50, e_X9_becomesFresh_51, e_X9_becomesFresh_52, e_X9_becomesFresh_55, e_X9_becomesFresh_59, e_X9_becomesFresh_62, e_X9_becomesFresh_63, e_X9_becomesFresh_64, e_X9_becomesFresh_65, e_X9_becomesFresh_66, e_X9_becomesFresh_69, e_X9_becomesFresh_70, e_X9_becomesFresh_71, e_X9_becomesFresh_72, o_const, o_iload, o_aload, o_fload, o_dload, o_istore, o_astore, o_fstore, o_dstore, o_iinc, o_bin, o_div, o_un, o_i2l, o_i2f, o_i2d, o_f2d, o_fdiv, o_ddiv, o_lcmp, o_fcmp, o_dcmp, o_if, o_if2, o_goto, o_dup, o_dupx1, o_dup2, o_pop, o_getI, o_getR, o_putI, o_putR, o_iald, o_iast, o_bald, o_bast, o_zald, o_zast, o_aald, o_aast, o_jald, o_jast, o_dald, o_dast, o_alen, o_castA, o_new, o_newa, o_callv, o_callvN, o_calli, o_calls, o_objinit, o_iret, o_zret, o_fret, o_dret, o_aret, o_vret, o_throw, o_acopy, o_bcopy, o_clone, o_tsw, o_ldcS, o_kval, o_kcoder, o_klen, o_kald, o_tald, o_getSq, o_callk, o_callvH, gl, stl, stl2, pre2, va_rf, Value.category, catS, List.length_cons, List.length_nil, List.map_cons, List.map_nil, List.sum_cons, List.sum_nil, List.take_succ_cons, List.take_zero, List.drop_succ_cons, List.drop_zero, List.reverse_cons, List.reverse_nil, List.nil_append, List.cons_append, true_and, and_true, if_true, Nat.reduceAdd, Nat.reduceLT, Nat.reduceLeDiff, m1, m2, b1, b2, b3, b4, e1, e2, c1, c2, nI_1, hg1 (11 + k) (by omega)]
    have F2 := Fr.sI S' 40 (ad 0) (41 + k) (f (11 + k))
    refine ⟨fun c => absurd ((nI_leI (a := 10) (by decide) (by omega)).mp c) (by omega), fun _ => ⟨vp_in_nI (by omega) (by decide), vp_in_nI (by omega) (by decide), ih (k + 1) _ (by omega) (hM'.fr F2 (by rw [gR_sI])) (fun j hj => ?_) (fun j hj => ?_) ((hF.trans F2).mono (fun _ _ _ w => w.elim id id) (by decide) (by decide))⟩⟩
    · rw [gI_sIk, if_neg (fun w => by omega)]; exact hg1 j hj
    · rw [gI_sIk]
      by_cases e : j = k
      · rw [if_pos ⟨rfl, rfl, by omega⟩, e]
      · rw [if_neg (fun w => by omega)]; exact hg2 j (by omega)
theorem sp_mFresh_lp1 (hM : MS S m ad) {f : Nat → Int32} (hf : gI S 42 (ad 2) = f)
    (h : ∀ S', MS S' m ad → (∀ j, j < 51 → gI S' 40 (ad 0) j = f j) → Fr S S' (fun t a => t = 40 ∧ a = ad 0) 0 0 → Run ks (WG ks d) Q tb_X9_becomesFresh 26 [some (.ref m), some (.int (nI 51))] [] S') :
    ∀ r k S', k + r = 51 → MS S' m ad → (∀ j, j < k → gI S' 40 (ad 0) j = f j) → Fr S S' (fun t a => t = 40 ∧ a = ad 0) 0 0 →
      Run ks (WG ks d) Q tb_X9_becomesFresh 2 [some (.ref m), some (.int (nI k))] [] S' := by
  intro r
  have h2a := hM.2.2.2.1.2.1
  induction r with
  | zero =>
    intro k S' hk hM' hg1 hF
    have e : k = 51 := by omega
    subst e
    rw [e_X9_becomesFresh_2]
    simp only [e_X9_becomesFresh_0, e_X9_becomesFresh_1, e_X9_becomesFresh_3, e_X9_becomesFresh_5, e_X9_becomesFresh_8, e_X9_becomesFresh_9, e_X9_becomesFresh_12, e_X9_becomesFresh_13, e_X9_becomesFresh_14, e_X9_becomesFresh_17, e_X9_becomesFresh_18, e_X9_becomesFresh_19, e_X9_becomesFresh_20, e_X9_becomesFresh_23, e_X9_becomesFresh_27, e_X9_becomesFresh_29, e_X9_becomesFresh_31, e_X9_becomesFresh_34, e_X9_becomesFresh_35, e_X9_becomesFresh_38, e_X9_becomesFresh_40, e_X9_becomesFresh_41, e_X9_becomesFresh_42, e_X9_becomesFresh_43, e_X9_becomesFresh_46, e_X9_becomesFresh_48, e_X9_becomesFresh_49, e_X9_becomesFresh_50, e_X9_becomesFresh_51, e_X9_becomesFresh_52, e_X9_becomesFresh_55, e_X9_becomesFresh_59, e_X9_becomesFresh_62, e_X9_becomesFresh_63, e_X9_becomesFresh_64, e_X9_becomesFresh_65, e_X9_becomesFresh_66, e_X9_becomesFresh_69, e_X9_becomesFresh_70, e_X9_becomesFresh_71, e_X9_becomesFresh_72, o_const, o_iload, o_aload, o_fload, o_dload, o_istore, o_astore, o_fstore, o_dstore, o_iinc, o_bin, o_div, o_un, o_i2l, o_i2f, o_i2d, o_f2d, o_fdiv, o_ddiv, o_lcmp, o_fcmp, o_dcmp, o_if, o_if2, o_goto, o_dup, o_dupx1, o_dup2, o_pop, o_getI, o_getR, o_putI, o_putR, o_iald, o_iast, o_bald, o_bast, o_zald, o_zast, o_aald, o_aast, o_jald, o_jast, o_dald, o_dast, o_alen, o_castA, o_new, o_newa, o_callv, o_callvN, o_calli, o_calls, o_objinit, o_iret, o_zret, o_fret, o_dret, o_aret, o_vret, o_throw, o_acopy, o_bcopy, o_clone, o_tsw, o_ldcS, o_kval, o_kcoder, o_klen, o_kald, o_tald, o_getSq, o_callk, o_callvH, gl, stl, stl2, pre2, va_rf, Value.category, catS, List.length_cons, List.length_nil, List.map_cons, List.map_nil, List.sum_cons, List.sum_nil, List.take_succ_cons, List.take_zero, List.drop_succ_cons, List.drop_zero, List.reverse_cons, List.reverse_nil, List.nil_append, List.cons_append, true_and, and_true, if_true, Nat.reduceAdd, Nat.reduceLT, Nat.reduceLeDiff]
    exact ⟨fun _ => h S' hM' hg1 hF, fun c => absurd (by decide) c⟩
  | succ r ih =>
    intro k S' hk hM' hg1 hF
    have hMc := hM'
    obtain ⟨⟨m1, m2⟩, ⟨b1, b2, b3, b4⟩, -, ⟨a1, a2, a3, a4⟩, -⟩ := hMc
    have e2 := (hF.2.1 42 (ad 2) h2a (fun w => absurd w.1 (by decide))).1
    have c1 : (nI k).toNatClampNeg = k := nI_clamp (by omega)
    rw [e_X9_becomesFresh_2]
    simp only [e_X9_becomesFresh_0, e_X9_becomesFresh_1, e_X9_becomesFresh_3, e_X9_becomesFresh_5, e_X9_becomesFresh_8, e_X9_becomesFresh_9, e_X9_becomesFresh_12, e_X9_becomesFresh_13, e_X9_becomesFresh_14, e_X9_becomesFresh_17, e_X9_becomesFresh_18, e_X9_becomesFresh_19, e_X9_becomesFresh_20, e_X9_becomesFresh_23, e_X9_becomesFresh_27, e_X9_becomesFresh_29, e_X9_becomesFresh_31, e_X9_becomesFresh_34, e_X9_becomesFresh_35, e_X9_becomesFresh_38, e_X9_becomesFresh_40, e_X9_becomesFresh_41, e_X9_becomesFresh_42, e_X9_becomesFresh_43, e_X9_becomesFresh_46, e_X9_becomesFresh_48, e_X9_becomesFresh_49, e_X9_becomesFresh_50, e_X9_becomesFresh_51, e_X9_becomesFresh_52, e_X9_becomesFresh_55, e_X9_becomesFresh_59, e_X9_becomesFresh_62, e_X9_becomesFresh_63, e_X9_becomesFresh_64, e_X9_becomesFresh_65, e_X9_becomesFresh_66, e_X9_becomesFresh_69, e_X9_becomesFresh_70, e_X9_becomesFresh_71, e_X9_becomesFresh_72, o_const, o_iload, o_aload, o_fload, o_dload, o_istore, o_astore, o_fstore, o_dstore, o_iinc, o_bin, o_div, o_un, o_i2l, o_i2f, o_i2d, o_f2d, o_fdiv, o_ddiv, o_lcmp, o_fcmp, o_dcmp, o_if, o_if2, o_goto, o_dup, o_dupx1, o_dup2, o_pop, o_getI, o_getR, o_putI, o_putR, o_iald, o_iast, o_bald, o_bast, o_zald, o_zast, o_aald, o_aast, o_jald, o_jast, o_dald, o_dast, o_alen, o_castA, o_new, o_newa, o_callv, o_callvN, o_calli, o_calls, o_objinit, o_iret, o_zret, o_fret, o_dret, o_aret, o_vret, o_throw, o_acopy, o_bcopy, o_clone, o_tsw, o_ldcS, o_kval, o_kcoder, o_klen, o_kald, o_tald, o_getSq, o_callk, o_callvH, gl, stl, stl2, pre2, va_rf, Value.category, catS, List.length_cons, List.length_nil, List.map_cons, List.map_nil, List.sum_cons, List.sum_nil, List.take_succ_cons, List.take_zero, List.drop_succ_cons, List.drop_zero, List.reverse_cons, List.reverse_nil, List.nil_append, List.cons_append, true_and, and_true, if_true, Nat.reduceAdd, Nat.reduceLT, Nat.reduceLeDiff, m1, m2, b1, b2, b3, b4, a1, a2, a3, a4, c1, nI_1, e2, hf]
    have F2 := Fr.sI S' 40 (ad 0) k (f k)
    refine ⟨fun c => absurd ((nI_leI (a := 51) (by decide) (by omega)).mp c) (by omega), fun _ => ⟨vp_in_nI (by omega) (by decide), vp_in_nI (by omega) (by decide), ih (k + 1) _ (by omega) (hM'.fr F2 (by rw [gR_sI])) (fun j hj => ?_) ((hF.trans F2).mono (fun _ _ _ w => w.elim id id) (by decide) (by decide))⟩⟩
    rw [gI_sIk]
    by_cases e : j = k
    · rw [if_pos ⟨rfl, rfl, e⟩, e]
    · rw [if_neg (fun w => e w.2.2)]; exact hg1 j (by omega)
theorem sp_mBecomes (hM : MS S m ad) {A : ASet} (hA : FrR (gI S 42 (ad 2)) A) (h : ∀ S', MS S' m ad → RowR (gI S' 40 (ad 0)) 0 (bgn C A) → Fr S S' (fun t a => t = 40 ∧ a = ad 0) 0 0 → Q (.inl none) S') : WG ks (d + 1) n_X9_becomesFresh [.ref m] S Q := by
  refine ⟨by simp [cat1, Value.category], by show (1 : Nat) ≤ 2; decide, ?_⟩
  show Run ks (WG ks d) Q tb_X9_becomesFresh 0 [some (.ref m), none] [] S
  simp only [e_X9_becomesFresh_0, e_X9_becomesFresh_1, e_X9_becomesFresh_3, e_X9_becomesFresh_5, e_X9_becomesFresh_8, e_X9_becomesFresh_9, e_X9_becomesFresh_12, e_X9_becomesFresh_13, e_X9_becomesFresh_14, e_X9_becomesFresh_17, e_X9_becomesFresh_18, e_X9_becomesFresh_19, e_X9_becomesFresh_20, e_X9_becomesFresh_23, e_X9_becomesFresh_27, e_X9_becomesFresh_29, e_X9_becomesFresh_31, e_X9_becomesFresh_34, e_X9_becomesFresh_35, e_X9_becomesFresh_38, e_X9_becomesFresh_40, e_X9_becomesFresh_41, e_X9_becomesFresh_42, e_X9_becomesFresh_43, e_X9_becomesFresh_46, e_X9_becomesFresh_48, e_X9_becomesFresh_49, e_X9_becomesFresh_50, e_X9_becomesFresh_51, e_X9_becomesFresh_52, e_X9_becomesFresh_55, e_X9_becomesFresh_59, e_X9_becomesFresh_62, e_X9_becomesFresh_63, e_X9_becomesFresh_64, e_X9_becomesFresh_65, e_X9_becomesFresh_66, e_X9_becomesFresh_69, e_X9_becomesFresh_70, e_X9_becomesFresh_71, e_X9_becomesFresh_72, o_const, o_iload, o_aload, o_fload, o_dload, o_istore, o_astore, o_fstore, o_dstore, o_iinc, o_bin, o_div, o_un, o_i2l, o_i2f, o_i2d, o_f2d, o_fdiv, o_ddiv, o_lcmp, o_fcmp, o_dcmp, o_if, o_if2, o_goto, o_dup, o_dupx1, o_dup2, o_pop, o_getI, o_getR, o_putI, o_putR, o_iald, o_iast, o_bald, o_bast, o_zald, o_zast, o_aald, o_aast, o_jald, o_jast, o_dald, o_dast, o_alen, o_castA, o_new, o_newa, o_callv, o_callvN, o_calli, o_calls, o_objinit, o_iret, o_zret, o_fret, o_dret, o_aret, o_vret, o_throw, o_acopy, o_bcopy, o_clone, o_tsw, o_ldcS, o_kval, o_kcoder, o_klen, o_kald, o_tald, o_getSq, o_callk, o_callvH, gl, stl, stl2, pre2, va_rf, Value.category, catS, List.length_cons, List.length_nil, List.map_cons, List.map_nil, List.sum_cons, List.sum_nil, List.take_succ_cons, List.take_zero, List.drop_succ_cons, List.drop_zero, List.reverse_cons, List.reverse_nil, List.nil_append, List.cons_append, true_and, and_true, if_true, Nat.reduceAdd, Nat.reduceLT, Nat.reduceLeDiff]
  refine sp_mFresh_lp1 hM rfl ?_ 51 0 S (by decide) hM (fun j hj => absurd hj (Nat.not_lt_zero j)) ((Fr.rf S).mono (fun _ _ _ w => w.elim) (by decide) (by decide))
  intro S1 hM1 hg F1
  simp only [e_X9_becomesFresh_0, e_X9_becomesFresh_1, e_X9_becomesFresh_3, e_X9_becomesFresh_5, e_X9_becomesFresh_8, e_X9_becomesFresh_9, e_X9_becomesFresh_12, e_X9_becomesFresh_13, e_X9_becomesFresh_14, e_X9_becomesFresh_17, e_X9_becomesFresh_18, e_X9_becomesFresh_19, e_X9_becomesFresh_20, e_X9_becomesFresh_23, e_X9_becomesFresh_26, e_X9_becomesFresh_27, e_X9_becomesFresh_29, e_X9_becomesFresh_31, e_X9_becomesFresh_34, e_X9_becomesFresh_35, e_X9_becomesFresh_38, e_X9_becomesFresh_40, e_X9_becomesFresh_41, e_X9_becomesFresh_42, e_X9_becomesFresh_43, e_X9_becomesFresh_46, e_X9_becomesFresh_48, e_X9_becomesFresh_49, e_X9_becomesFresh_50, e_X9_becomesFresh_51, e_X9_becomesFresh_52, e_X9_becomesFresh_55, e_X9_becomesFresh_59, e_X9_becomesFresh_62, e_X9_becomesFresh_63, e_X9_becomesFresh_64, e_X9_becomesFresh_65, e_X9_becomesFresh_66, e_X9_becomesFresh_69, e_X9_becomesFresh_70, e_X9_becomesFresh_71, e_X9_becomesFresh_72, o_const, o_iload, o_aload, o_fload, o_dload, o_istore, o_astore, o_fstore, o_dstore, o_iinc, o_bin, o_div, o_un, o_i2l, o_i2f, o_i2d, o_f2d, o_fdiv, o_ddiv, o_lcmp, o_fcmp, o_dcmp, o_if, o_if2, o_goto, o_dup, o_dupx1, o_dup2, o_pop, o_getI, o_getR, o_putI, o_putR, o_iald, o_iast, o_bald, o_bast, o_zald, o_zast, o_aald, o_aast, o_jald, o_jast, o_dald, o_dast, o_alen, o_castA, o_new, o_newa, o_callv, o_callvN, o_calli, o_calls, o_objinit, o_iret, o_zret, o_fret, o_dret, o_aret, o_vret, o_throw, o_acopy, o_bcopy, o_clone, o_tsw, o_ldcS, o_kval, o_kcoder, o_klen, o_kald, o_tald, o_getSq, o_callk, o_callvH, gl, stl, stl2, pre2, va_rf, Value.category, catS, List.length_cons, List.length_nil, List.map_cons, List.map_nil, List.sum_cons, List.sum_nil, List.take_succ_cons, List.take_zero, List.drop_succ_cons, List.drop_zero, List.reverse_cons, List.reverse_nil, List.nil_append, List.cons_append, true_and, and_true, if_true, Nat.reduceAdd, Nat.reduceLT, Nat.reduceLeDiff]
  refine sp_mFresh_lp2 hM1 hg ?_ 10 0 S1 (by decide) hM1 (fun j hj => hg j (by omega)) (fun j hj => absurd hj (Nat.not_lt_zero j)) ((Fr.rf S1).mono (fun _ _ _ w => w.elim) (by decide) (by decide))
  intro S2 hM2 hg1 hg2 F2
  have hMc := hM2
  obtain ⟨⟨m1, m2⟩, ⟨b1, b2, b3, b4⟩, -⟩ := hMc
  have c3 : Int32.toNatClampNeg 3 = 3 := by decide
  have c4 : Int32.toNatClampNeg 4 = 4 := by decide
  rw [e_X9_becomesFresh_58]
  simp only [e_X9_becomesFresh_0, e_X9_becomesFresh_1, e_X9_becomesFresh_3, e_X9_becomesFresh_5, e_X9_becomesFresh_8, e_X9_becomesFresh_9, e_X9_becomesFresh_12, e_X9_becomesFresh_13, e_X9_becomesFresh_14, e_X9_becomesFresh_17, e_X9_becomesFresh_18, e_X9_becomesFresh_19, e_X9_becomesFresh_20, e_X9_becomesFresh_23, e_X9_becomesFresh_26, e_X9_becomesFresh_27, e_X9_becomesFresh_29, e_X9_becomesFresh_31, e_X9_becomesFresh_34, e_X9_becomesFresh_35, e_X9_becomesFresh_38, e_X9_becomesFresh_40, e_X9_becomesFresh_41, e_X9_becomesFresh_42, e_X9_becomesFresh_43, e_X9_becomesFresh_46, e_X9_becomesFresh_48, e_X9_becomesFresh_49, e_X9_becomesFresh_50, e_X9_becomesFresh_51, e_X9_becomesFresh_52, e_X9_becomesFresh_55, e_X9_becomesFresh_59, e_X9_becomesFresh_62, e_X9_becomesFresh_63, e_X9_becomesFresh_64, e_X9_becomesFresh_65, e_X9_becomesFresh_66, e_X9_becomesFresh_69, e_X9_becomesFresh_70, e_X9_becomesFresh_71, e_X9_becomesFresh_72, o_const, o_iload, o_aload, o_fload, o_dload, o_istore, o_astore, o_fstore, o_dstore, o_iinc, o_bin, o_div, o_un, o_i2l, o_i2f, o_i2d, o_f2d, o_fdiv, o_ddiv, o_lcmp, o_fcmp, o_dcmp, o_if, o_if2, o_goto, o_dup, o_dupx1, o_dup2, o_pop, o_getI, o_getR, o_putI, o_putR, o_iald, o_iast, o_bald, o_bast, o_zald, o_zast, o_aald, o_aast, o_jald, o_jast, o_dald, o_dast, o_alen, o_castA, o_new, o_newa, o_callv, o_callvN, o_calli, o_calls, o_objinit, o_iret, o_zret, o_fret, o_dret, o_aret, o_vret, o_throw, o_acopy, o_bcopy, o_clone, o_tsw, o_ldcS, o_kval, o_kcoder, o_klen, o_kald, o_tald, o_getSq, o_callk, o_callvH, gl, stl, stl2, pre2, va_rf, Value.category, catS, List.length_cons, List.length_nil, List.map_cons, List.map_nil, List.sum_cons, List.sum_nil, List.take_succ_cons, List.take_zero, List.drop_succ_cons, List.drop_zero, List.reverse_cons, List.reverse_nil, List.nil_append, List.cons_append, true_and, and_true, if_true, Nat.reduceAdd, Nat.reduceLT, Nat.reduceLeDiff, m1, m2, b1, b2, b3, b4, c3, c4, gL_sW, gL_sI, gL_sR, gL_sC, gL_nW, gK_sW, gK_sI, gK_sR, gK_sC, gK_nW, gN_sW, gN_sI, gN_sR, gN_sC, gN_nW, gC_sW, gC_sI, gC_sR, gC_sC, gC_nW, gZ_sW, gZ_sI, gZ_sR, gZ_sC, gZ_nW, gR_sI]
  have F3 := Fr.sI S2 40 (ad 0) 3 0
  have F4 := Fr.sI (sI S2 40 (ad 0) 3 0) 40 (ad 0) 4 0
  refine ⟨vp_in_nI (n := 3) (by decide) (by decide), vp_in_nI (n := 4) (by decide) (by decide), h _ ((hM2.fr F3 (by rw [gR_sI])).fr F4 (by rw [gR_sI])) (hA.row (fun j hj => ?_) ?_ ?_ (fun k hk => ?_)) ((F1.trans (F2.trans (F3.trans F4))).mono (fun t a _ w => by rcases w with w | w | w | w <;> exact w) (by decide) (by decide))⟩
  · rw [gI_sIk, if_neg (fun w => by omega), gI_sIk, if_neg (fun w => by omega)]; exact hg1 j (by omega)
  · rw [gI_sIk, if_neg (fun w => by omega), gI_sIk, if_pos ⟨rfl, rfl, rfl⟩]
  · rw [gI_sIk, if_pos ⟨rfl, rfl, rfl⟩]
  · rw [gI_sIk, if_neg (fun w => by omega), gI_sIk, if_neg (fun w => by omega)]; exact hg2 k hk
end SPS
