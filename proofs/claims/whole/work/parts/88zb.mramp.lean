/-! THE MODEL: the ramp's questions -/
section MRL
variable {S S' : M9} {m M tl hn wn : Nat} {ad : Nat → Nat} {T Wt : Nat → Int32} {eA : Int32} {H : Nat → CSt} {C C' : CSt} {s0 s1 : CSl} {W : Nat → Nat → Prop} {c z : Nat}
theorem MoR.up2 (h : MoR S m ad tl T eA hn H C wn Wt s0 s1) (hM' : MS S' m ad) (hF : Fr S S' W c z) (hs : ∀ j, (j = 5 ∨ j = 8 ∨ j = 16 ∨ j = 20 ∨ j = 28) → gI S' 11 m j = gI S 11 m j) (hW : ∀ t a, (t = 16 ∨ t = 41 ∨ t = 43 ∨ t = 44 ∨ t = 51) → ¬ W t a) (hr : RowR (gI S' 40 (ad 0)) 0 C') : MoR S' m ad tl T eA hn H C' wn Wt s0 s1 := by
  obtain ⟨h1, h2, ⟨a1, a2, a3⟩, ⟨b1, b2, b3, b4, b5⟩, ⟨c1, c2, c3⟩, ⟨d1, d2, d3⟩, ⟨f1, f2, f3⟩⟩ := h
  obtain ⟨-, -, ⟨-, x1, -⟩, -, ⟨-, x3, -⟩, ⟨-, x4, -⟩, ⟨-, x7, -⟩, -, -, -, -, -, -, ⟨-, x27, -⟩⟩ := h1
  have e1 := (hF.2.1 41 (ad 1) x1 (hW _ _ (by decide))).1
  have e3 := (hF.2.1 43 (ad 3) x3 (hW _ _ (by decide))).1
  have e4 := (hF.2.1 16 (ad 4) x4 (hW _ _ (by decide))).1
  have e7 := (hF.2.1 44 (ad 7) x7 (hW _ _ (by decide))).1
  have e27 := (hF.2.1 51 (ad 27) x27 (hW _ _ (by decide))).1
  refine ⟨hM', hr, ⟨a1, by rw [hs 5 (by decide)]; exact a2, by rw [e1]; exact a3⟩, ⟨b1, by rw [hs 8 (by decide)]; exact b2, by rw [e7]; exact b3, by rw [hs 16 (by decide)]; exact b4, by rw [hs 20 (by decide)]; exact b5⟩, ⟨c1, by rw [hs 28 (by decide)]; exact c2, by rw [e27]; exact c3⟩, ?_, ?_⟩
  · exact ⟨d1, by rw [e4]; exact d2, by rw [e3]; exact d3⟩
  · exact ⟨f1, by rw [e4]; exact f2, by rw [e3]; exact f3⟩
end MRL
section SPS
variable {ks : Nat → Nat} {d : Nat} {Q : QP} {S : M9} {m M tl hn wn : Nat} {ad : Nat → Nat} {T Wt : Nat → Int32} {eA : Int32} {H : Nat → CSt} {C : CSt} {s0 s1 : CSl}
theorem sp_mWorksC (hM : MoR S m ad tl T eA hn H C wn Wt s0 s1) (hV : VC M C) (h : ∀ S', MoR S' m ad tl T eA hn H C wn Wt s0 s1 → (∀ j, ¬ j = 25 → ¬ j = 26 → gI S' 11 m j = gI S 11 m j) → MRamp S' m ad (rgN C) (rcd C) → Fr S S' (fun t _ => nM t) 0 0 → Q (.inl none) S') : WG ks (d + 3) n_X9_works [.ref m] S Q := by
  have hMc := hM
  obtain ⟨hMS, hR, -, ⟨-, -, -, -, h20⟩, -⟩ := hMc
  refine sp_mWorks hMS hR hV.1 hV.2.2.1.1 hV.2.2.1.2.1 h20 rfl ?_
  intro S' hM' hrow hj hRp F
  rw [rcS_0 (by have := hV.1.2.1.2; omega)] at hRp
  exact h S' (hM.up2 hM' F (fun j w => hj j (by omega) (by omega)) (fun t a w q => by omega) (hR.noi0 hrow)) hj hRp (F.toM (fun t a w => by unfold nM; omega))
theorem rcd_le (hV : VC M C) (x : Nat) : rcd C x ≤ 10230 := cvC_le hV.1 hV.2.2.1.2.1 _
theorem sp_mFound_lp (hM : MS S m ad) {rg : Nat} (hrg : rg ≤ 5120) {f : Nat → Nat} (hf : ∀ x, f x ≤ 10230) (hRp : MRamp S m ad rg f) (h : Q (.inl (some (.int (nI (dfF f (rg + 1)))))) S) :
    ∀ r k, k + r = gsF f (rg + 1) + 1 - lsF f (rg + 1) → Run ks (WG ks d) Q tb_X9_codesFound 7 [some (.ref m), some (.int (nI (sg (ixF f (rg + 1)) (lsF f (rg + 1)) k))), some (.int (nI (lsF f (rg + 1) + k)))] [] S := by
  obtain ⟨⟨m1, m2⟩, -, -, -, -, -, -, -, -, -, -, -, ⟨b1, b2, b3, b4⟩, -⟩ := hM
  obtain ⟨⟨g25, g26⟩, -, gw⟩ := hRp
  have hl := lsF_le f (rg + 1)
  have hg := gsF_le (f := f) (rg + 1) (fun x _ => hf x)
  obtain ⟨l1, l2⟩ := ls_gs (f := f) rg
  intro r
  induction r with
  | zero =>
    intro k hk
    have e : k = gsF f (rg + 1) + 1 - lsF f (rg + 1) := by omega
    rw [e_X9_codesFound_7]
    simp only [e_X9_codesFound_0, e_X9_codesFound_1, e_X9_codesFound_2, e_X9_codesFound_3, e_X9_codesFound_6, e_X9_codesFound_8, e_X9_codesFound_9, e_X9_codesFound_12, e_X9_codesFound_15, e_X9_codesFound_16, e_X9_codesFound_17, e_X9_codesFound_20, e_X9_codesFound_21, e_X9_codesFound_22, e_X9_codesFound_25, e_X9_codesFound_26, e_X9_codesFound_29, e_X9_codesFound_30, e_X9_codesFound_31, e_X9_codesFound_32, e_X9_codesFound_35, e_X9_codesFound_38, e_X9_codesFound_39, o_const, o_iload, o_aload, o_fload, o_dload, o_istore, o_astore, o_fstore, o_dstore, o_iinc, o_bin, o_div, o_un, o_i2l, o_i2f, o_i2d, o_f2d, o_fdiv, o_ddiv, o_lcmp, o_fcmp, o_dcmp, o_if, o_if2, o_goto, o_dup, o_dupx1, o_dup2, o_pop, o_getI, o_getR, o_putI, o_putR, o_iald, o_iast, o_bald, o_bast, o_zald, o_zast, o_aald, o_aast, o_jald, o_jast, o_dald, o_dast, o_alen, o_castA, o_new, o_newa, o_callv, o_callvN, o_calli, o_calls, o_objinit, o_iret, o_zret, o_fret, o_dret, o_aret, o_vret, o_throw, o_acopy, o_bcopy, o_clone, o_tsw, o_ldcS, o_kval, o_kcoder, o_klen, o_kald, o_tald, o_getSq, o_callk, o_callvH, gl, stl, stl2, pre2, va_rf, Value.category, catS, List.length_cons, List.length_nil, List.map_cons, List.map_nil, List.sum_cons, List.sum_nil, List.take_succ_cons, List.take_zero, List.drop_succ_cons, List.drop_zero, List.reverse_cons, List.reverse_nil, List.nil_append, List.cons_append, true_and, and_true, if_true, Nat.reduceAdd, Nat.reduceLT, Nat.reduceLeDiff, m1, m2, g26]
    have e1 := df_ix (f := f) (a := lsF f (rg + 1)) (r := k) (rg + 1) (fun x hx => ⟨ls_le _ x hx, by have := gs_ge (f := f) _ x hx; omega⟩)
    rw [e1]
    exact ⟨fun _ => h, fun c => absurd (nI_lt (by omega) (by omega)) c⟩
  | succ r ih =>
    intro k hk
    have hih := ih (k + 1) (by omega)
    simp only [sg, ← Nat.add_assoc] at hih
    have q0 : (nI (lsF f (rg + 1) + k)).toNatClampNeg = lsF f (rg + 1) + k := nI_clamp (by omega)
    have v0 : vp_in (nI (lsF f (rg + 1) + k)) 10231 := vp_in_nI (by omega) (by decide)
    have rw0 := gw (lsF f (rg + 1) + k) (by omega)
    have hcl := cnW_le f (rg + 1) (lsF f (rg + 1) + k)
    rw [e_X9_codesFound_7]
    simp only [e_X9_codesFound_0, e_X9_codesFound_1, e_X9_codesFound_2, e_X9_codesFound_3, e_X9_codesFound_6, e_X9_codesFound_8, e_X9_codesFound_9, e_X9_codesFound_12, e_X9_codesFound_15, e_X9_codesFound_16, e_X9_codesFound_17, e_X9_codesFound_20, e_X9_codesFound_21, e_X9_codesFound_22, e_X9_codesFound_25, e_X9_codesFound_26, e_X9_codesFound_29, e_X9_codesFound_30, e_X9_codesFound_31, e_X9_codesFound_32, e_X9_codesFound_35, e_X9_codesFound_38, e_X9_codesFound_39, o_const, o_iload, o_aload, o_fload, o_dload, o_istore, o_astore, o_fstore, o_dstore, o_iinc, o_bin, o_div, o_un, o_i2l, o_i2f, o_i2d, o_f2d, o_fdiv, o_ddiv, o_lcmp, o_fcmp, o_dcmp, o_if, o_if2, o_goto, o_dup, o_dupx1, o_dup2, o_pop, o_getI, o_getR, o_putI, o_putR, o_iald, o_iast, o_bald, o_bast, o_zald, o_zast, o_aald, o_aast, o_jald, o_jast, o_dald, o_dast, o_alen, o_castA, o_new, o_newa, o_callv, o_callvN, o_calli, o_calls, o_objinit, o_iret, o_zret, o_fret, o_dret, o_aret, o_vret, o_throw, o_acopy, o_bcopy, o_clone, o_tsw, o_ldcS, o_kval, o_kcoder, o_klen, o_kald, o_tald, o_getSq, o_callk, o_callvH, gl, stl, stl2, pre2, va_rf, Value.category, catS, List.length_cons, List.length_nil, List.map_cons, List.map_nil, List.sum_cons, List.sum_nil, List.take_succ_cons, List.take_zero, List.drop_succ_cons, List.drop_zero, List.reverse_cons, List.reverse_nil, List.nil_append, List.cons_append, true_and, and_true, if_true, Nat.reduceAdd, Nat.reduceLT, Nat.reduceLeDiff, m1, m2, g26, b1, b2, b3, b4, q0, v0, rw0, nI_1, nI_z]
    refine ⟨fun c => absurd ((nI_ltI (by omega) (by omega)).mp c) (by omega), fun _ => ⟨fun c => ?_, fun c => ?_⟩⟩
    · have e0 : ixF f (rg + 1) (lsF f (rg + 1) + k) = 0 := by
        unfold ixF
        refine if_pos ?_
        by_cases e : cnW f (rg + 1) (lsF f (rg + 1) + k) = 0
        · exact e
        · exact absurd c (nI_nle (by omega) (by omega))
      rw [e0] at hih
      exact hih
    · have e0 : ixF f (rg + 1) (lsF f (rg + 1) + k) = 1 := by
        unfold ixF
        refine if_neg (fun e => c ?_)
        rw [e]; decide
      rw [e0] at hih
      exact hih
theorem sp_mFound (hM : MS S m ad) {rg : Nat} (hrg : rg ≤ 5120) {f : Nat → Nat} (hf : ∀ x, f x ≤ 10230) (hRp : MRamp S m ad rg f) (h : Q (.inl (some (.int (nI (dfF f (rg + 1)))))) S) : WG ks (d + 1) n_X9_codesFound [.ref m] S Q := by
  refine ⟨by simp [cat1, Value.category], by show (1 : Nat) ≤ 3; decide, ?_⟩
  show Run ks (WG ks d) Q tb_X9_codesFound 0 [some (.ref m), none, none] [] S
  have hMc := hM
  obtain ⟨⟨m1, m2⟩, -⟩ := hMc
  simp only [e_X9_codesFound_0, e_X9_codesFound_1, e_X9_codesFound_2, e_X9_codesFound_3, e_X9_codesFound_6, e_X9_codesFound_8, e_X9_codesFound_9, e_X9_codesFound_12, e_X9_codesFound_15, e_X9_codesFound_16, e_X9_codesFound_17, e_X9_codesFound_20, e_X9_codesFound_21, e_X9_codesFound_22, e_X9_codesFound_25, e_X9_codesFound_26, e_X9_codesFound_29, e_X9_codesFound_30, e_X9_codesFound_31, e_X9_codesFound_32, e_X9_codesFound_35, e_X9_codesFound_38, e_X9_codesFound_39, o_const, o_iload, o_aload, o_fload, o_dload, o_istore, o_astore, o_fstore, o_dstore, o_iinc, o_bin, o_div, o_un, o_i2l, o_i2f, o_i2d, o_f2d, o_fdiv, o_ddiv, o_lcmp, o_fcmp, o_dcmp, o_if, o_if2, o_goto, o_dup, o_dupx1, o_dup2, o_pop, o_getI, o_getR, o_putI, o_putR, o_iald, o_iast, o_bald, o_bast, o_zald, o_zast, o_aald, o_aast, o_jald, o_jast, o_dald, o_dast, o_alen, o_castA, o_new, o_newa, o_callv, o_callvN, o_calli, o_calls, o_objinit, o_iret, o_zret, o_fret, o_dret, o_aret, o_vret, o_throw, o_acopy, o_bcopy, o_clone, o_tsw, o_ldcS, o_kval, o_kcoder, o_klen, o_kald, o_tald, o_getSq, o_callk, o_callvH, gl, stl, stl2, pre2, va_rf, Value.category, catS, List.length_cons, List.length_nil, List.map_cons, List.map_nil, List.sum_cons, List.sum_nil, List.take_succ_cons, List.take_zero, List.drop_succ_cons, List.drop_zero, List.reverse_cons, List.reverse_nil, List.nil_append, List.cons_append, true_and, and_true, if_true, Nat.reduceAdd, Nat.reduceLT, Nat.reduceLeDiff, m1, m2, hRp.1.1]
  exact sp_mFound_lp hM hrg hf hRp h _ 0 (Nat.zero_add _)
theorem sp_mCodes (hM : MoR S m ad tl T eA hn H C wn Wt s0 s1) (hV : VC M C)
    (h : ∀ S', MoR S' m ad tl T eA hn H C wn Wt s0 s1 → gI S' 11 m 6 = 0 → Fr S S' (fun t _ => nM t) 0 0 → Q (.inl (some (.int (nI (dfF (rcd C) (rgN C + 1)))))) S') : WG ks (d + 4) n_X9_codes [.ref m] S Q := by
  refine ⟨by simp [cat1, Value.category], by show (1 : Nat) ≤ 1; decide, ?_⟩
  show Run ks (WG ks (d + 3)) Q tb_X9_codes 0 [some (.ref m)] [] S
  have hm := hM.1.1
  have hM1 := hM.f (j := 6) (v := 0) (by decide)
  simp only [e_X9_codes_0, e_X9_codes_1, e_X9_codes_2, e_X9_codes_5, e_X9_codes_6, e_X9_codes_9, e_X9_codes_10, e_X9_codes_13, o_const, o_iload, o_aload, o_fload, o_dload, o_istore, o_astore, o_fstore, o_dstore, o_iinc, o_bin, o_div, o_un, o_i2l, o_i2f, o_i2d, o_f2d, o_fdiv, o_ddiv, o_lcmp, o_fcmp, o_dcmp, o_if, o_if2, o_goto, o_dup, o_dupx1, o_dup2, o_pop, o_getI, o_getR, o_putI, o_putR, o_iald, o_iast, o_bald, o_bast, o_zald, o_zast, o_aald, o_aast, o_jald, o_jast, o_dald, o_dast, o_alen, o_castA, o_new, o_newa, o_callv, o_callvN, o_calli, o_calls, o_objinit, o_iret, o_zret, o_fret, o_dret, o_aret, o_vret, o_throw, o_acopy, o_bcopy, o_clone, o_tsw, o_ldcS, o_kval, o_kcoder, o_klen, o_kald, o_tald, o_getSq, o_callk, o_callvH, gl, stl, stl2, pre2, va_rf, Value.category, catS, List.length_cons, List.length_nil, List.map_cons, List.map_nil, List.sum_cons, List.sum_nil, List.take_succ_cons, List.take_zero, List.drop_succ_cons, List.drop_zero, List.reverse_cons, List.reverse_nil, List.nil_append, List.cons_append, true_and, and_true, if_true, Nat.reduceAdd, Nat.reduceLT, Nat.reduceLeDiff, hm, gL_sW, gL_sI, gL_sR, gL_sC, gL_nW, gK_sW, gK_sI, gK_sR, gK_sC, gK_nW, gN_sW, gN_sI, gN_sR, gN_sC, gN_nW, gC_sW, gC_sI, gC_sR, gC_sC, gC_nW, gZ_sW, gZ_sI, gZ_sR, gZ_sC, gZ_nW, narI, and_self]
  refine ⟨⟨m, _, rfl, rfl, hm⟩, sp_mWorksC hM1 hV ?_⟩
  intro S2 hM2 hj hRp F2
  have hm2 := hM2.1.1
  simp only [behind, e_X9_codes_0, e_X9_codes_1, e_X9_codes_2, e_X9_codes_5, e_X9_codes_6, e_X9_codes_9, e_X9_codes_10, e_X9_codes_13, o_const, o_iload, o_aload, o_fload, o_dload, o_istore, o_astore, o_fstore, o_dstore, o_iinc, o_bin, o_div, o_un, o_i2l, o_i2f, o_i2d, o_f2d, o_fdiv, o_ddiv, o_lcmp, o_fcmp, o_dcmp, o_if, o_if2, o_goto, o_dup, o_dupx1, o_dup2, o_pop, o_getI, o_getR, o_putI, o_putR, o_iald, o_iast, o_bald, o_bast, o_zald, o_zast, o_aald, o_aast, o_jald, o_jast, o_dald, o_dast, o_alen, o_castA, o_new, o_newa, o_callv, o_callvN, o_calli, o_calls, o_objinit, o_iret, o_zret, o_fret, o_dret, o_aret, o_vret, o_throw, o_acopy, o_bcopy, o_clone, o_tsw, o_ldcS, o_kval, o_kcoder, o_klen, o_kald, o_tald, o_getSq, o_callk, o_callvH, gl, stl, stl2, pre2, va_rf, Value.category, catS, List.length_cons, List.length_nil, List.map_cons, List.map_nil, List.sum_cons, List.sum_nil, List.take_succ_cons, List.take_zero, List.drop_succ_cons, List.drop_zero, List.reverse_cons, List.reverse_nil, List.nil_append, List.cons_append, true_and, and_true, if_true, Nat.reduceAdd, Nat.reduceLT, Nat.reduceLeDiff, hm2]
  refine ⟨⟨m, _, rfl, rfl, hm2⟩, sp_mFound (d := d + 2) hM2.1 (rgN_le hV.1) (rcd_le hV) hRp ?_⟩
  simp only [behind, e_X9_codes_0, e_X9_codes_1, e_X9_codes_2, e_X9_codes_5, e_X9_codes_6, e_X9_codes_9, e_X9_codes_10, e_X9_codes_13, o_const, o_iload, o_aload, o_fload, o_dload, o_istore, o_astore, o_fstore, o_dstore, o_iinc, o_bin, o_div, o_un, o_i2l, o_i2f, o_i2d, o_f2d, o_fdiv, o_ddiv, o_lcmp, o_fcmp, o_dcmp, o_if, o_if2, o_goto, o_dup, o_dupx1, o_dup2, o_pop, o_getI, o_getR, o_putI, o_putR, o_iald, o_iast, o_bald, o_bast, o_zald, o_zast, o_aald, o_aast, o_jald, o_jast, o_dald, o_dast, o_alen, o_castA, o_new, o_newa, o_callv, o_callvN, o_calli, o_calls, o_objinit, o_iret, o_zret, o_fret, o_dret, o_aret, o_vret, o_throw, o_acopy, o_bcopy, o_clone, o_tsw, o_ldcS, o_kval, o_kcoder, o_klen, o_kald, o_tald, o_getSq, o_callk, o_callvH, gl, stl, stl2, pre2, va_rf, Value.category, catS, List.length_cons, List.length_nil, List.map_cons, List.map_nil, List.sum_cons, List.sum_nil, List.take_succ_cons, List.take_zero, List.drop_succ_cons, List.drop_zero, List.reverse_cons, List.reverse_nil, List.nil_append, List.cons_append, true_and, and_true, if_true, Nat.reduceAdd, Nat.reduceLT, Nat.reduceLeDiff]
  exact h S2 hM2 (by rw [hj 6 (by decide) (by decide), gI_sIk, if_pos ⟨rfl, rfl, rfl⟩]) ((nM_fr S).nM2 F2)
theorem sp_mMissing (hM : MoR S m ad tl T eA hn H C wn Wt s0 s1) (hV : VC M C)
    (h : ∀ S', MoR S' m ad tl T eA hn H C wn Wt s0 s1 → gI S' 11 m 6 = 0 → Fr S S' (fun t _ => nM t) 0 0 → Q (.inl (some (.int (rMiss C)))) S') : WG ks (d + 4) n_X9_missing [.ref m] S Q := by
  refine ⟨by simp [cat1, Value.category], by show (1 : Nat) ≤ 1; decide, ?_⟩
  show Run ks (WG ks (d + 3)) Q tb_X9_missing 0 [some (.ref m)] [] S
  have hm := hM.1.1
  have hM1 := hM.f (j := 6) (v := 0) (by decide)
  simp only [e_X9_missing_0, e_X9_missing_1, e_X9_missing_2, e_X9_missing_5, e_X9_missing_6, e_X9_missing_9, e_X9_missing_10, e_X9_missing_13, e_X9_missing_14, e_X9_missing_17, e_X9_missing_18, e_X9_missing_19, e_X9_missing_20, e_X9_missing_21, e_X9_missing_24, e_X9_missing_25, o_const, o_iload, o_aload, o_fload, o_dload, o_istore, o_astore, o_fstore, o_dstore, o_iinc, o_bin, o_div, o_un, o_i2l, o_i2f, o_i2d, o_f2d, o_fdiv, o_ddiv, o_lcmp, o_fcmp, o_dcmp, o_if, o_if2, o_goto, o_dup, o_dupx1, o_dup2, o_pop, o_getI, o_getR, o_putI, o_putR, o_iald, o_iast, o_bald, o_bast, o_zald, o_zast, o_aald, o_aast, o_jald, o_jast, o_dald, o_dast, o_alen, o_castA, o_new, o_newa, o_callv, o_callvN, o_calli, o_calls, o_objinit, o_iret, o_zret, o_fret, o_dret, o_aret, o_vret, o_throw, o_acopy, o_bcopy, o_clone, o_tsw, o_ldcS, o_kval, o_kcoder, o_klen, o_kald, o_tald, o_getSq, o_callk, o_callvH, gl, stl, stl2, pre2, va_rf, Value.category, catS, List.length_cons, List.length_nil, List.map_cons, List.map_nil, List.sum_cons, List.sum_nil, List.take_succ_cons, List.take_zero, List.drop_succ_cons, List.drop_zero, List.reverse_cons, List.reverse_nil, List.nil_append, List.cons_append, true_and, and_true, if_true, Nat.reduceAdd, Nat.reduceLT, Nat.reduceLeDiff, hm, gL_sW, gL_sI, gL_sR, gL_sC, gL_nW, gK_sW, gK_sI, gK_sR, gK_sC, gK_nW, gN_sW, gN_sI, gN_sR, gN_sC, gN_nW, gC_sW, gC_sI, gC_sR, gC_sC, gC_nW, gZ_sW, gZ_sI, gZ_sR, gZ_sC, gZ_nW, narI, and_self]
  refine ⟨⟨m, _, rfl, rfl, hm⟩, sp_mWorksC hM1 hV ?_⟩
  intro S2 hM2 hj hRp F2
  have hm2 := hM2.1.1
  simp only [behind, e_X9_missing_0, e_X9_missing_1, e_X9_missing_2, e_X9_missing_5, e_X9_missing_6, e_X9_missing_9, e_X9_missing_10, e_X9_missing_13, e_X9_missing_14, e_X9_missing_17, e_X9_missing_18, e_X9_missing_19, e_X9_missing_20, e_X9_missing_21, e_X9_missing_24, e_X9_missing_25, o_const, o_iload, o_aload, o_fload, o_dload, o_istore, o_astore, o_fstore, o_dstore, o_iinc, o_bin, o_div, o_un, o_i2l, o_i2f, o_i2d, o_f2d, o_fdiv, o_ddiv, o_lcmp, o_fcmp, o_dcmp, o_if, o_if2, o_goto, o_dup, o_dupx1, o_dup2, o_pop, o_getI, o_getR, o_putI, o_putR, o_iald, o_iast, o_bald, o_bast, o_zald, o_zast, o_aald, o_aast, o_jald, o_jast, o_dald, o_dast, o_alen, o_castA, o_new, o_newa, o_callv, o_callvN, o_calli, o_calls, o_objinit, o_iret, o_zret, o_fret, o_dret, o_aret, o_vret, o_throw, o_acopy, o_bcopy, o_clone, o_tsw, o_ldcS, o_kval, o_kcoder, o_klen, o_kald, o_tald, o_getSq, o_callk, o_callvH, gl, stl, stl2, pre2, va_rf, Value.category, catS, List.length_cons, List.length_nil, List.map_cons, List.map_nil, List.sum_cons, List.sum_nil, List.take_succ_cons, List.take_zero, List.drop_succ_cons, List.drop_zero, List.reverse_cons, List.reverse_nil, List.nil_append, List.cons_append, true_and, and_true, if_true, Nat.reduceAdd, Nat.reduceLT, Nat.reduceLeDiff, hm2, hRp.1.1, hRp.1.2]
  refine ⟨⟨m, _, rfl, rfl, hm2⟩, sp_mFound (d := d + 2) hM2.1 (rgN_le hV.1) (rcd_le hV) hRp ?_⟩
  simp only [behind, e_X9_missing_0, e_X9_missing_1, e_X9_missing_2, e_X9_missing_5, e_X9_missing_6, e_X9_missing_9, e_X9_missing_10, e_X9_missing_13, e_X9_missing_14, e_X9_missing_17, e_X9_missing_18, e_X9_missing_19, e_X9_missing_20, e_X9_missing_21, e_X9_missing_24, e_X9_missing_25, o_const, o_iload, o_aload, o_fload, o_dload, o_istore, o_astore, o_fstore, o_dstore, o_iinc, o_bin, o_div, o_un, o_i2l, o_i2f, o_i2d, o_f2d, o_fdiv, o_ddiv, o_lcmp, o_fcmp, o_dcmp, o_if, o_if2, o_goto, o_dup, o_dupx1, o_dup2, o_pop, o_getI, o_getR, o_putI, o_putR, o_iald, o_iast, o_bald, o_bast, o_zald, o_zast, o_aald, o_aast, o_jald, o_jast, o_dald, o_dast, o_alen, o_castA, o_new, o_newa, o_callv, o_callvN, o_calli, o_calls, o_objinit, o_iret, o_zret, o_fret, o_dret, o_aret, o_vret, o_throw, o_acopy, o_bcopy, o_clone, o_tsw, o_ldcS, o_kval, o_kcoder, o_klen, o_kald, o_tald, o_getSq, o_callk, o_callvH, gl, stl, stl2, pre2, va_rf, Value.category, catS, List.length_cons, List.length_nil, List.map_cons, List.map_nil, List.sum_cons, List.sum_nil, List.take_succ_cons, List.take_zero, List.drop_succ_cons, List.drop_zero, List.reverse_cons, List.reverse_nil, List.nil_append, List.cons_append, true_and, and_true, if_true, Nat.reduceAdd, Nat.reduceLT, Nat.reduceLeDiff]
  exact h S2 hM2 (by rw [hj 6 (by decide) (by decide), gI_sIk, if_pos ⟨rfl, rfl, rfl⟩]) ((nM_fr S).nM2 F2)
theorem sp_mMis_lp (hM : MS S m ad) {rg p : Nat} (hrg : rg ≤ 5120) {f : Nat → Nat} (hf : ∀ x, f x ≤ 10230) (hRp : MRamp S m ad rg f) (hp : p < 2 ^ 31) :
    ∀ r c a, c + r = gsF f (rg + 1) + 1 → a ≤ p → (p < a + sg (mcF f (rg + 1)) c r → Q (.inl (some (.int (msC f (rg + 1) (nI p) r c a)))) (sI S 11 m 6 0)) → (¬ p < a + sg (mcF f (rg + 1)) c r → Q (.inl (some (.int 0))) S) →
      Run ks (WG ks d) Q tb_X9_missingAt 16 [some (.ref m), some (.int (nI p)), some (.int (nI (p - a))), some (.int (nI c))] [] S := by
  obtain ⟨⟨m1, m2⟩, -, -, -, -, -, -, -, -, -, -, -, ⟨b1, b2, b3, b4⟩, -⟩ := hM
  obtain ⟨⟨g25, g26⟩, -, gw⟩ := hRp
  have hg := gsF_le (f := f) (rg + 1) (fun x _ => hf x)
  intro r
  induction r with
  | zero =>
    intro c a hc ha h1 h0
    rw [e_X9_missingAt_16]
    simp only [e_X9_missingAt_0, e_X9_missingAt_1, e_X9_missingAt_4, e_X9_missingAt_5, e_X9_missingAt_6, e_X9_missingAt_7, e_X9_missingAt_8, e_X9_missingAt_11, e_X9_missingAt_12, e_X9_missingAt_15, e_X9_missingAt_17, e_X9_missingAt_18, e_X9_missingAt_21, e_X9_missingAt_24, e_X9_missingAt_25, e_X9_missingAt_28, e_X9_missingAt_29, e_X9_missingAt_32, e_X9_missingAt_33, e_X9_missingAt_34, e_X9_missingAt_37, e_X9_missingAt_40, e_X9_missingAt_41, e_X9_missingAt_44, e_X9_missingAt_45, e_X9_missingAt_46, e_X9_missingAt_49, e_X9_missingAt_50, e_X9_missingAt_51, e_X9_missingAt_54, e_X9_missingAt_57, e_X9_missingAt_60, e_X9_missingAt_61, o_const, o_iload, o_aload, o_fload, o_dload, o_istore, o_astore, o_fstore, o_dstore, o_iinc, o_bin, o_div, o_un, o_i2l, o_i2f, o_i2d, o_f2d, o_fdiv, o_ddiv, o_lcmp, o_fcmp, o_dcmp, o_if, o_if2, o_goto, o_dup, o_dupx1, o_dup2, o_pop, o_getI, o_getR, o_putI, o_putR, o_iald, o_iast, o_bald, o_bast, o_zald, o_zast, o_aald, o_aast, o_jald, o_jast, o_dald, o_dast, o_alen, o_castA, o_new, o_newa, o_callv, o_callvN, o_calli, o_calls, o_objinit, o_iret, o_zret, o_fret, o_dret, o_aret, o_vret, o_throw, o_acopy, o_bcopy, o_clone, o_tsw, o_ldcS, o_kval, o_kcoder, o_klen, o_kald, o_tald, o_getSq, o_callk, o_callvH, gl, stl, stl2, pre2, va_rf, Value.category, catS, List.length_cons, List.length_nil, List.map_cons, List.map_nil, List.sum_cons, List.sum_nil, List.take_succ_cons, List.take_zero, List.drop_succ_cons, List.drop_zero, List.reverse_cons, List.reverse_nil, List.nil_append, List.cons_append, true_and, and_true, if_true, Nat.reduceAdd, Nat.reduceLT, Nat.reduceLeDiff, m1, m2, g26]
    exact ⟨fun _ => h0 (by show ¬ p < a + 0; omega), fun z => absurd (nI_lt (by omega) (by omega)) z⟩
  | succ r ih =>
    intro c a hc ha h1 h0
    rw [sg_first] at h1 h0
    have q0 : (nI c).toNatClampNeg = c := nI_clamp (by omega)
    have v0 : vp_in (nI c) 10231 := vp_in_nI (by omega) (by decide)
    have hcl := cnW_le f (rg + 1) c
    simp only [msC] at h1
    have hp0 := nI_pos hp
    rw [e_X9_missingAt_16]
    simp only [e_X9_missingAt_0, e_X9_missingAt_1, e_X9_missingAt_4, e_X9_missingAt_5, e_X9_missingAt_6, e_X9_missingAt_7, e_X9_missingAt_8, e_X9_missingAt_11, e_X9_missingAt_12, e_X9_missingAt_15, e_X9_missingAt_17, e_X9_missingAt_18, e_X9_missingAt_21, e_X9_missingAt_24, e_X9_missingAt_25, e_X9_missingAt_28, e_X9_missingAt_29, e_X9_missingAt_32, e_X9_missingAt_33, e_X9_missingAt_34, e_X9_missingAt_37, e_X9_missingAt_40, e_X9_missingAt_41, e_X9_missingAt_44, e_X9_missingAt_45, e_X9_missingAt_46, e_X9_missingAt_49, e_X9_missingAt_50, e_X9_missingAt_51, e_X9_missingAt_54, e_X9_missingAt_57, e_X9_missingAt_60, e_X9_missingAt_61, o_const, o_iload, o_aload, o_fload, o_dload, o_istore, o_astore, o_fstore, o_dstore, o_iinc, o_bin, o_div, o_un, o_i2l, o_i2f, o_i2d, o_f2d, o_fdiv, o_ddiv, o_lcmp, o_fcmp, o_dcmp, o_if, o_if2, o_goto, o_dup, o_dupx1, o_dup2, o_pop, o_getI, o_getR, o_putI, o_putR, o_iald, o_iast, o_bald, o_bast, o_zald, o_zast, o_aald, o_aast, o_jald, o_jast, o_dald, o_dast, o_alen, o_castA, o_new, o_newa, o_callv, o_callvN, o_calli, o_calls, o_objinit, o_iret, o_zret, o_fret, o_dret, o_aret, o_vret, o_throw, o_acopy, o_bcopy, o_clone, o_tsw, o_ldcS, o_kval, o_kcoder, o_klen, o_kald, o_tald, o_getSq, o_callk, o_callvH, gl, stl, stl2, pre2, va_rf, Value.category, catS, List.length_cons, List.length_nil, List.map_cons, List.map_nil, List.sum_cons, List.sum_nil, List.take_succ_cons, List.take_zero, List.drop_succ_cons, List.drop_zero, List.reverse_cons, List.reverse_nil, List.nil_append, List.cons_append, true_and, and_true, if_true, Nat.reduceAdd, Nat.reduceLT, Nat.reduceLeDiff, m1, m2, g26, b1, b2, b3, b4, q0, v0, gw c (by omega), nI_1]
    refine ⟨fun z => absurd ((nI_ltI (by omega) (by omega)).mp z) (by omega), fun _ => ⟨fun z => absurd z hp0, fun _ => ⟨fun z => ?_, fun z => ?_⟩⟩⟩
    · have e0 : cnW f (rg + 1) c = 0 := by
        by_cases e : cnW f (rg + 1) c = 0
        · exact e
        · exact absurd z (nI_nle (by omega) (by omega))
      have em : mcF f (rg + 1) c = 1 := if_pos e0
      rw [em] at h1 h0
      rw [if_pos e0] at h1
      refine ⟨fun y => ?_, fun y => ?_⟩
      · have hne : ¬ p - a = 0 := fun e => y (by rw [e]; rfl)
        rw [if_neg (fun e => by have := (nI_eq (by omega) hp).mp e; omega)] at h1
        have hd : nI (p - a) + (-1) = nI (p - (a + 1)) := by
          obtain ⟨q, hq⟩ : ∃ q, p - a = q + 1 := ⟨p - a - 1, by omega⟩
          rw [hq, pk_m1]; exact congrArg nI (by omega)
        rw [hd]
        exact ih (c + 1) (a + 1) (by omega) (by omega) (fun w => h1 (by omega)) (fun w => h0 (by omega))
      · have e1 : p - a = 0 := (nI_eq (b := 0) (by omega) (by decide)).mp (Classical.not_not.mp y)
        have e2 : a = p := by omega
        rw [if_pos (by rw [e2])] at h1
        exact ⟨narI 0, h1 (by omega)⟩
    · have e0 : ¬ cnW f (rg + 1) c = 0 := fun e => z (by rw [e]; decide)
      have em : mcF f (rg + 1) c = 0 := if_neg e0
      rw [em] at h1 h0
      rw [if_neg e0] at h1
      exact ih (c + 1) a (by omega) ha (fun w => h1 (by omega)) (fun w => h0 (by omega))
end SPS
