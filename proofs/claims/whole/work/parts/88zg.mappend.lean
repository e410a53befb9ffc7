/-! THE MODEL: append (its bytes: rows on bits of laws/BITS.to-paste) -/
def btX (x : Int32) (i : Nat) : Bool := x.toBitVec.getLsbD i
theorem bX_255 : ∀ i, i < 32 → btX 255 i = decide (i < 8) := by decide +kernel
theorem su_32 : ∀ n, n < 32 → (((nI n).toUInt32 &&& Int32.toUInt32 31).toBitVec % 32).toNat = n := by decide +kernel
theorem bX_ushr (n : Nat) (hn : n < 32) (x : Int32) (i : Nat) : btX ((x.toUInt32 >>> ((nI n).toUInt32 &&& Int32.toUInt32 31)).toInt32) i = btX x (n + i) := by
  show (x.toUInt32 >>> ((nI n).toUInt32 &&& Int32.toUInt32 31)).toBitVec.getLsbD i = x.toUInt32.toBitVec.getLsbD (n + i)
  rw [UInt32.toBitVec_shiftRight]
  show (x.toUInt32.toBitVec >>> (((nI n).toUInt32 &&& Int32.toUInt32 31).toBitVec % 32).toNat).getLsbD i = _
  rw [su_32 n hn, BitVec.getLsbD_ushiftRight]
theorem bX_sshr (n : Nat) (hn : n < 32) (x : Int32) {i : Nat} (hi : i < 32) : btX (x >>> (nI n &&& 31)) i = if n + i < 32 then btX x (n + i) else btX x 31 := by
  unfold btX
  rw [Int32.toBitVec_shiftRight]
  show (x.toBitVec.sshiftRight ((nI n &&& 31).toBitVec.smod 32).toNat).getLsbD i = _
  rw [sm_32 n hn, BitVec.getLsbD_sshiftRight, BitVec.msb_eq_getLsbD_last]
  simp [hi]
theorem bX_and (x y : Int32) (i : Nat) : btX (x &&& y) i = (btX x i && btX y i) := by unfold btX; rw [Int32.toBitVec_and, BitVec.getLsbD_and]
theorem by4_n {s : Nat} (hs : s ≤ 24) (v : Int32) : (v >>> (nI s &&& 31)) &&& 255 = (v.toUInt32 >>> ((nI s).toUInt32 &&& Int32.toUInt32 31)).toInt32 &&& 255 := by
  refine Int32.toBitVec_inj.mp (BitVec.eq_of_getLsbD_eq (fun i hi => ?_))
  show btX ((v >>> (nI s &&& 31)) &&& 255) i = btX ((v.toUInt32 >>> ((nI s).toUInt32 &&& Int32.toUInt32 31)).toInt32 &&& 255) i
  rw [bX_and, bX_and, bX_255 i hi, bX_sshr s (by omega) v hi, bX_ushr s (by omega) v i]
  by_cases c : i < 8
  · rw [if_pos (by omega)]
  · rw [decide_eq_false c, Bool.and_false, Bool.and_false]
theorem by4_m {j : Nat} (hj : j < 4) (v : Int32) : (v >>> (shI j &&& 31)) &&& 255 = by4 v j := by
  have e : shI j = nI (24 - 8 * j) := (by decide : ∀ j, j < 4 → shI j = nI (24 - 8 * j)) j hj
  unfold by4
  rw [e]
  exact by4_n (by omega) v
theorem ap_lo {T : Nat → Int32} {tl : Nat} {f0 f1 f2 f3 f4 : Int32} {j : Nat} (h : j < tl) : apAll T tl f0 f1 f2 f3 f4 j = T j := by
  unfold apAll apB
  rw [if_neg (by omega), if_neg (by omega), if_neg (by omega), if_neg (by omega), if_neg (by omega)]
theorem ap_at {T : Nat → Int32} {tl : Nat} {f0 f1 f2 f3 f4 : Int32} {k : Nat} (h : k < 20) : apAll T tl f0 f1 f2 f3 f4 (tl + k) = by4 (if k < 4 then f0 else if k < 8 then f1 else if k < 12 then f2 else if k < 16 then f3 else f4) (k % 4) := by
  unfold apAll apB
  by_cases c1 : k < 4
  · rw [if_neg (by omega), if_neg (by omega), if_neg (by omega), if_neg (by omega), if_pos (by omega), if_pos c1]; exact congrArg _ (by omega)
  · by_cases c2 : k < 8
    · rw [if_neg (by omega), if_neg (by omega), if_neg (by omega), if_pos (by omega), if_neg c1, if_pos c2]; exact congrArg _ (by omega)
    · by_cases c3 : k < 12
      · rw [if_neg (by omega), if_neg (by omega), if_pos (by omega), if_neg c1, if_neg c2, if_pos c3]; exact congrArg _ (by omega)
      · by_cases c4 : k < 16
        · rw [if_neg (by omega), if_pos (by omega), if_neg c1, if_neg c2, if_neg c3, if_pos c4]; exact congrArg _ (by omega)
        · rw [if_pos (by omega), if_neg c1, if_neg c2, if_neg c3, if_neg c4]; exact congrArg _ (by omega)
section MRL
variable {S S' : M9} {m tl hn wn : Nat} {ad : Nat → Nat} {T Wt : Nat → Int32} {eA : Int32} {H : Nat → CSt} {C C' : CSt} {s0 s1 : CSl} {W : Nat → Nat → Prop} {c z : Nat}
/-- the text and the error's place are others -/
theorem MoR.tx {tl' : Nat} {T' : Nat → Int32} {eA' : Int32} (h : MoR S m ad tl T eA hn H C wn Wt s0 s1) (hM' : MS S' m ad) (hF : Fr S S' W c z) (hs : ∀ j, (j = 5 ∨ j = 20 ∨ j = 28) → gI S' 11 m j = gI S 11 m j) (hW : ∀ t a, (t = 16 ∨ t = 41 ∨ t = 43 ∨ t = 51) → ¬ W t a) (hr : RowR (gI S' 40 (ad 0)) 0 C') (ht : tl' ≤ 400) (h8 : gI S' 11 m 8 = nI tl') (hT : ∀ j, j < tl' → gI S' 44 (ad 7) j = T' j) (h16 : gI S' 11 m 16 = eA') : MoR S' m ad tl' T' eA' hn H C' wn Wt s0 s1 := by
  obtain ⟨h1, h2, ⟨a1, a2, a3⟩, ⟨b1, b2, b3, b4, b5⟩, ⟨c1, c2, c3⟩, ⟨d1, d2, d3⟩, ⟨f1, f2, f3⟩⟩ := h
  obtain ⟨-, -, ⟨-, x1, -⟩, -, ⟨-, x3, -⟩, ⟨-, x4, -⟩, ⟨-, x7, -⟩, -, -, -, -, -, -, ⟨-, x27, -⟩⟩ := h1
  have e1 := (hF.2.1 41 (ad 1) x1 (hW _ _ (by decide))).1
  have e3 := (hF.2.1 43 (ad 3) x3 (hW _ _ (by decide))).1
  have e4 := (hF.2.1 16 (ad 4) x4 (hW _ _ (by decide))).1
  have e27 := (hF.2.1 51 (ad 27) x27 (hW _ _ (by decide))).1
  refine ⟨hM', hr, ⟨a1, by rw [hs 5 (by decide)]; exact a2, by rw [e1]; exact a3⟩, ⟨ht, h8, hT, h16, by rw [hs 20 (by decide)]; exact b5⟩, ⟨c1, by rw [hs 28 (by decide)]; exact c2, by rw [e27]; exact c3⟩, ?_, ?_⟩
  · exact ⟨d1, by rw [e4]; exact d2, by rw [e3]; exact d3⟩
  · exact ⟨f1, by rw [e4]; exact f2, by rw [e3]; exact f3⟩
end MRL
section SPS
variable {ks : Nat → Nat} {d : Nat} {Q : QP} {S : M9} {m M tl hn wn : Nat} {ad : Nat → Nat} {T Wt : Nat → Int32} {eA : Int32} {H : Nat → CSt} {C : CSt} {s0 s1 : CSl}
theorem sp_mApp_lp {f0 f1 f2 f3 f4 : Int32} (htl : tl ≤ 380)
    (h : ∀ S', MS S' m ad → (∀ j, ¬ j = 8 → gI S' 11 m j = gI S 11 m j) → gI S' 11 m 8 = nI (tl + 20) → (∀ j, j < tl + 20 → gI S' 44 (ad 7) j = apAll T tl f0 f1 f2 f3 f4 j) → Fr S S' (fun t a => (t = 11 ∧ a = m) ∨ t = 44) 0 0 → Q (.inl (some (.int (nI (tl + 20))))) S') :
    ∀ r k S' g, k + r = 20 → MS S' m ad → (∀ j, ¬ j = 8 → gI S' 11 m j = gI S 11 m j) → gI S' 11 m 8 = nI (tl + k) → (∀ j, j < tl + k → gI S' 44 (ad 7) j = apAll T tl f0 f1 f2 f3 f4 j) → Fr S S' (fun t a => (t = 11 ∧ a = m) ∨ t = 44) 0 0 →
      Run ks (WG ks d) Q tb_X9_append 34 [some (.ref m), some (.int f0), some (.int f1), some (.int f2), some (.int f3), some (.int f4), some (.int (nI k)), g] [] S' := by
  intro r
  induction r with
  | zero =>
    intro k S' g hk hM' h1 h2 h3 hF
    have e : k = 20 := by omega
    subst e
    have hMc := hM'
    obtain ⟨⟨m1, m2⟩, -⟩ := hMc
    rw [e_X9_append_34]
    simp only [e_X9_append_0, e_X9_append_1, e_X9_append_2, e_X9_append_5, e_X9_append_7, e_X9_append_8, e_X9_append_11, e_X9_append_14, e_X9_append_15, e_X9_append_18, e_X9_append_19, e_X9_append_22, e_X9_append_23, e_X9_append_26, e_X9_append_29, e_X9_append_30, e_X9_append_31, e_X9_append_32, e_X9_append_36, e_X9_append_38, e_X9_append_41, e_X9_append_43, e_X9_append_44, e_X9_append_47, e_X9_append_48, e_X9_append_51, e_X9_append_53, e_X9_append_55, e_X9_append_58, e_X9_append_59, e_X9_append_62, e_X9_append_64, e_X9_append_66, e_X9_append_69, e_X9_append_70, e_X9_append_73, e_X9_append_75, e_X9_append_77, e_X9_append_80, e_X9_append_82, e_X9_append_85, e_X9_append_89, e_X9_append_90, e_X9_append_93, e_X9_append_94, e_X9_append_97, e_X9_append_99, e_X9_append_101, e_X9_append_103, e_X9_append_105, e_X9_append_106, e_X9_append_107, e_X9_append_108, e_X9_append_109, e_X9_append_110, e_X9_append_113, e_X9_append_114, e_X9_append_115, e_X9_append_116, e_X9_append_117, e_X9_append_120, e_X9_append_121, e_X9_append_122, e_X9_append_125, e_X9_append_128, e_X9_append_131, e_X9_append_132, e_X9_append_135, o_const, o_iload, o_aload, o_fload, o_dload, o_istore, o_astore, o_fstore, o_dstore, o_iinc, o_bin, o_div, o_un, o_i2l, o_i2f, o_i2d, o_f2d, o_fdiv, o_ddiv, o_lcmp, o_fcmp, o_dcmp, o_if, o_if2, o_goto, o_dup, o_dupx1, o_dup2, o_pop, o_getI, o_getR, o_putI, o_putR, o_iald, o_iast, o_bald, o_bast, o_zald, o_zast, o_aald, o_aast, o_jald, o_jast, o_dald, o_dast, o_alen, o_castA, o_new, o_newa, o_callv, o_callvN, o_calli, o_calls, o_objinit, o_iret, o_zret, o_fret, o_dret, o_aret, o_vret, o_throw, o_acopy, o_bcopy, o_clone, o_tsw, o_ldcS, o_kval, o_kcoder, o_klen, o_kald, o_tald, o_getSq, o_callk, o_callvH, gl, stl, stl2, pre2, va_rf, Value.category, catS, List.length_cons, List.length_nil, List.map_cons, List.map_nil, List.sum_cons, List.sum_nil, List.take_succ_cons, List.take_zero, List.drop_succ_cons, List.drop_zero, List.reverse_cons, List.reverse_nil, List.nil_append, List.cons_append, true_and, and_true, if_true, Nat.reduceAdd, Nat.reduceLT, Nat.reduceLeDiff, m1, m2, h2]
    exact ⟨fun _ => h S' hM' h1 h2 h3 hF, fun c => absurd (by decide) c⟩
  | succ r ih =>
    intro k S' g hk hM' h1 h2 h3 hF
    have hMc := hM'
    obtain ⟨⟨m1, m2⟩, -, -, -, -, -, ⟨b1, b2, b3, b4⟩, -⟩ := hMc
    have q0 : (nI (tl + k)).toNatClampNeg = tl + k := nI_clamp (by omega)
    have v0 : vp_in (nI (tl + k)) 400 := vp_in_nI (by omega) (by decide)
    have hmid : ∀ v, v = (if k < 4 then f0 else if k < 8 then f1 else if k < 12 then f2 else if k < 16 then f3 else f4) → Run ks (WG ks d) Q tb_X9_append 87 [some (.ref m), some (.int f0), some (.int f1), some (.int f2), some (.int f3), some (.int f4), some (.int (nI k)), g] [.int v] S' := by
      intro v hv
      have er : nI k - nI k / 4 * 4 = nI (k % 4) := pk_rem (d := 4) (by omega) (by decide) (by decide)
      have es : (24 : Int32) - 8 * nI (k % 4) = shI (k % 4) := rfl
      have ev : (v >>> (shI (k % 4) &&& 31)) &&& 255 = apAll T tl f0 f1 f2 f3 f4 (tl + k) := by
        rw [by4_m (Nat.mod_lt _ (by decide)), ap_at (by omega), hv]
      have F1 := Fr.sI S' 44 (ad 7) (tl + k) (apAll T tl f0 f1 f2 f3 f4 (tl + k))
      have F2 := Fr.sI (sI S' 44 (ad 7) (tl + k) (apAll T tl f0 f1 f2 f3 f4 (tl + k))) 11 m 8 (nI (tl + k + 1))
      rw [e_X9_append_87]
      simp only [e_X9_append_0, e_X9_append_1, e_X9_append_2, e_X9_append_5, e_X9_append_7, e_X9_append_8, e_X9_append_11, e_X9_append_14, e_X9_append_15, e_X9_append_18, e_X9_append_19, e_X9_append_22, e_X9_append_23, e_X9_append_26, e_X9_append_29, e_X9_append_30, e_X9_append_31, e_X9_append_32, e_X9_append_36, e_X9_append_38, e_X9_append_41, e_X9_append_43, e_X9_append_44, e_X9_append_47, e_X9_append_48, e_X9_append_51, e_X9_append_53, e_X9_append_55, e_X9_append_58, e_X9_append_59, e_X9_append_62, e_X9_append_64, e_X9_append_66, e_X9_append_69, e_X9_append_70, e_X9_append_73, e_X9_append_75, e_X9_append_77, e_X9_append_80, e_X9_append_82, e_X9_append_85, e_X9_append_89, e_X9_append_90, e_X9_append_93, e_X9_append_94, e_X9_append_97, e_X9_append_99, e_X9_append_101, e_X9_append_103, e_X9_append_105, e_X9_append_106, e_X9_append_107, e_X9_append_108, e_X9_append_109, e_X9_append_110, e_X9_append_113, e_X9_append_114, e_X9_append_115, e_X9_append_116, e_X9_append_117, e_X9_append_120, e_X9_append_121, e_X9_append_122, e_X9_append_125, e_X9_append_128, e_X9_append_131, e_X9_append_132, e_X9_append_135, o_const, o_iload, o_aload, o_fload, o_dload, o_istore, o_astore, o_fstore, o_dstore, o_iinc, o_bin, o_div, o_un, o_i2l, o_i2f, o_i2d, o_f2d, o_fdiv, o_ddiv, o_lcmp, o_fcmp, o_dcmp, o_if, o_if2, o_goto, o_dup, o_dupx1, o_dup2, o_pop, o_getI, o_getR, o_putI, o_putR, o_iald, o_iast, o_bald, o_bast, o_zald, o_zast, o_aald, o_aast, o_jald, o_jast, o_dald, o_dast, o_alen, o_castA, o_new, o_newa, o_callv, o_callvN, o_calli, o_calls, o_objinit, o_iret, o_zret, o_fret, o_dret, o_aret, o_vret, o_throw, o_acopy, o_bcopy, o_clone, o_tsw, o_ldcS, o_kval, o_kcoder, o_klen, o_kald, o_tald, o_getSq, o_callk, o_callvH, gl, stl, stl2, pre2, va_rf, Value.category, catS, List.length_cons, List.length_nil, List.map_cons, List.map_nil, List.sum_cons, List.sum_nil, List.take_succ_cons, List.take_zero, List.drop_succ_cons, List.drop_zero, List.reverse_cons, List.reverse_nil, List.nil_append, List.cons_append, true_and, and_true, if_true, Nat.reduceAdd, Nat.reduceLT, Nat.reduceLeDiff, m1, m2, b1, b2, b3, b4, h2, q0, v0, er, es, ev, gL_sW, gL_sI, gL_sR, gL_sC, gL_nW, gK_sW, gK_sI, gK_sR, gK_sC, gK_nW, gN_sW, gN_sI, gN_sR, gN_sC, gN_nW, gC_sW, gC_sI, gC_sR, gC_sC, gC_nW, gZ_sW, gZ_sI, gZ_sR, gZ_sC, gZ_nW, narI, gR_sI, gI_sIk, Nat.reduceEqDiff, false_and, and_false, if_false, and_self, nI_1]
      refine ⟨by decide, ih (k + 1) _ _ (by omega) ((hM'.fr F1 (by rw [gR_sI])).fr F2 (by rw [gR_sI])) (fun j hj => ?_) (by rw [gI_sIk, if_pos ⟨rfl, rfl, rfl⟩, Nat.add_assoc]) (fun j hj => ?_) ((hF.trans (F1.trans F2)).mono (fun t a _ w => by omega) (by decide) (by decide))⟩
      · rw [gI_sIk, if_neg (fun w => hj w.2.2), gI_sIk, if_neg (fun w => by omega)]; exact h1 j hj
      · rw [gI_sIk, if_neg (fun w => by omega), gI_sIk]
        by_cases e : j = tl + k
        · rw [if_pos ⟨rfl, rfl, e⟩, e]
        · rw [if_neg (fun w => e w.2.2)]; exact h3 j (by omega)
    rw [e_X9_append_34]
    simp only [e_X9_append_0, e_X9_append_1, e_X9_append_2, e_X9_append_5, e_X9_append_7, e_X9_append_8, e_X9_append_11, e_X9_append_14, e_X9_append_15, e_X9_append_18, e_X9_append_19, e_X9_append_22, e_X9_append_23, e_X9_append_26, e_X9_append_29, e_X9_append_30, e_X9_append_31, e_X9_append_32, e_X9_append_36, e_X9_append_38, e_X9_append_41, e_X9_append_43, e_X9_append_44, e_X9_append_47, e_X9_append_48, e_X9_append_51, e_X9_append_53, e_X9_append_55, e_X9_append_58, e_X9_append_59, e_X9_append_62, e_X9_append_64, e_X9_append_66, e_X9_append_69, e_X9_append_70, e_X9_append_73, e_X9_append_75, e_X9_append_77, e_X9_append_80, e_X9_append_82, e_X9_append_85, e_X9_append_89, e_X9_append_90, e_X9_append_93, e_X9_append_94, e_X9_append_97, e_X9_append_99, e_X9_append_101, e_X9_append_103, e_X9_append_105, e_X9_append_106, e_X9_append_107, e_X9_append_108, e_X9_append_109, e_X9_append_110, e_X9_append_113, e_X9_append_114, e_X9_append_115, e_X9_append_116, e_X9_append_117, e_X9_append_120, e_X9_append_121, e_X9_append_122, e_X9_append_125, e_X9_append_128, e_X9_append_131, e_X9_append_132, e_X9_append_135, o_const, o_iload, o_aload, o_fload, o_dload, o_istore, o_astore, o_fstore, o_dstore, o_iinc, o_bin, o_div, o_un, o_i2l, o_i2f, o_i2d, o_f2d, o_fdiv, o_ddiv, o_lcmp, o_fcmp, o_dcmp, o_if, o_if2, o_goto, o_dup, o_dupx1, o_dup2, o_pop, o_getI, o_getR, o_putI, o_putR, o_iald, o_iast, o_bald, o_bast, o_zald, o_zast, o_aald, o_aast, o_jald, o_jast, o_dald, o_dast, o_alen, o_castA, o_new, o_newa, o_callv, o_callvN, o_calli, o_calls, o_objinit, o_iret, o_zret, o_fret, o_dret, o_aret, o_vret, o_throw, o_acopy, o_bcopy, o_clone, o_tsw, o_ldcS, o_kval, o_kcoder, o_klen, o_kald, o_tald, o_getSq, o_callk, o_callvH, gl, stl, stl2, pre2, va_rf, Value.category, catS, List.length_cons, List.length_nil, List.map_cons, List.map_nil, List.sum_cons, List.sum_nil, List.take_succ_cons, List.take_zero, List.drop_succ_cons, List.drop_zero, List.reverse_cons, List.reverse_nil, List.nil_append, List.cons_append, true_and, and_true, if_true, Nat.reduceAdd, Nat.reduceLT, Nat.reduceLeDiff]
    refine ⟨fun c => absurd ((nI_leI (a := 20) (by decide) (by omega)).mp c) (by omega), fun _ => ⟨fun c => ?_, fun c => ?_⟩⟩
    · have c4 := (nI_leI (a := 4) (by decide) (by omega)).mp c
      refine ⟨fun c => ?_, fun c => ?_⟩
      · have c8 := (nI_leI (a := 8) (by decide) (by omega)).mp c
        refine ⟨fun c => ?_, fun c => ?_⟩
        · have c12 := (nI_leI (a := 12) (by decide) (by omega)).mp c
          refine ⟨fun c => ?_, fun c => ?_⟩
          · have c16 := (nI_leI (a := 16) (by decide) (by omega)).mp c
            exact hmid _ (by rw [if_neg (by omega), if_neg (by omega), if_neg (by omega), if_neg (by omega)])
          · have c16 : ¬ 16 ≤ k := fun w => c (nI_le (a := 16) w (by omega))
            exact hmid _ (by rw [if_neg (by omega), if_neg (by omega), if_neg (by omega), if_pos (by omega)])
        · have c12 : ¬ 12 ≤ k := fun w => c (nI_le (a := 12) w (by omega))
          exact hmid _ (by rw [if_neg (by omega), if_neg (by omega), if_pos (by omega)])
      · have c8 : ¬ 8 ≤ k := fun w => c (nI_le (a := 8) w (by omega))
        exact hmid _ (by rw [if_neg (by omega), if_pos (by omega)])
    · have c4 : ¬ 4 ≤ k := fun w => c (nI_le (a := 4) w (by omega))
      exact hmid _ (by rw [if_pos (by omega)])
theorem sp_mAppend (hM : MoR S m ad tl T eA hn H C wn Wt s0 s1) {f0 f1 f2 f3 f4 : Int32}
    (h1 : ∀ S', tl ≤ 380 → MoR S' m ad (tl + 20) (apAll T tl f0 f1 f2 f3 f4) eA hn H C wn Wt s0 s1 → gI S' 11 m 6 = 0 → Fr S S' (fun t _ => nM t) 0 0 → Q (.inl (some (.int (nI (tl + 20))))) S')
    (h0 : ∀ S' v, ¬ tl ≤ 380 → MoR S' m ad tl T eA hn H C wn Wt s0 s1 → gI S' 11 m 6 = 1 → Fr S S' (fun t _ => nM t) 0 0 → Q (.inl (some (.int v))) S') : WG ks (d + 1) n_X9_append [.ref m, .int f0, .int f1, .int f2, .int f3, .int f4] S Q := by
  refine ⟨by simp [cat1, Value.category], by show (6 : Nat) ≤ 8; decide, ?_⟩
  show Run ks (WG ks d) Q tb_X9_append 0 [some (.ref m), some (.int f0), some (.int f1), some (.int f2), some (.int f3), some (.int f4), none, none] [] S
  have hm := hM.1.1
  have hT := hM.2.2.2.1
  obtain ⟨t1, t2, t3, t4, t5⟩ := hT
  have e20 : nI tl + 20 = nI (tl + 20) := by rw [show (20 : Int32) = nI 20 from rfl, nI_add]
  simp only [e_X9_append_0, e_X9_append_1, e_X9_append_2, e_X9_append_5, e_X9_append_7, e_X9_append_8, e_X9_append_11, e_X9_append_14, e_X9_append_15, e_X9_append_18, e_X9_append_19, e_X9_append_22, e_X9_append_23, e_X9_append_26, e_X9_append_29, e_X9_append_30, e_X9_append_31, e_X9_append_32, e_X9_append_36, e_X9_append_38, e_X9_append_41, e_X9_append_43, e_X9_append_44, e_X9_append_47, e_X9_append_48, e_X9_append_51, e_X9_append_53, e_X9_append_55, e_X9_append_58, e_X9_append_59, e_X9_append_62, e_X9_append_64, e_X9_append_66, e_X9_append_69, e_X9_append_70, e_X9_append_73, e_X9_append_75, e_X9_append_77, e_X9_append_80, e_X9_append_82, e_X9_append_85, e_X9_append_89, e_X9_append_90, e_X9_append_93, e_X9_append_94, e_X9_append_97, e_X9_append_99, e_X9_append_101, e_X9_append_103, e_X9_append_105, e_X9_append_106, e_X9_append_107, e_X9_append_108, e_X9_append_109, e_X9_append_110, e_X9_append_113, e_X9_append_114, e_X9_append_115, e_X9_append_116, e_X9_append_117, e_X9_append_120, e_X9_append_121, e_X9_append_122, e_X9_append_125, e_X9_append_128, e_X9_append_131, e_X9_append_132, e_X9_append_135, o_const, o_iload, o_aload, o_fload, o_dload, o_istore, o_astore, o_fstore, o_dstore, o_iinc, o_bin, o_div, o_un, o_i2l, o_i2f, o_i2d, o_f2d, o_fdiv, o_ddiv, o_lcmp, o_fcmp, o_dcmp, o_if, o_if2, o_goto, o_dup, o_dupx1, o_dup2, o_pop, o_getI, o_getR, o_putI, o_putR, o_iald, o_iast, o_bald, o_bast, o_zald, o_zast, o_aald, o_aast, o_jald, o_jast, o_dald, o_dast, o_alen, o_castA, o_new, o_newa, o_callv, o_callvN, o_calli, o_calls, o_objinit, o_iret, o_zret, o_fret, o_dret, o_aret, o_vret, o_throw, o_acopy, o_bcopy, o_clone, o_tsw, o_ldcS, o_kval, o_kcoder, o_klen, o_kald, o_tald, o_getSq, o_callk, o_callvH, gl, stl, stl2, pre2, va_rf, Value.category, catS, List.length_cons, List.length_nil, List.map_cons, List.map_nil, List.sum_cons, List.sum_nil, List.take_succ_cons, List.take_zero, List.drop_succ_cons, List.drop_zero, List.reverse_cons, List.reverse_nil, List.nil_append, List.cons_append, true_and, and_true, if_true, Nat.reduceAdd, Nat.reduceLT, Nat.reduceLeDiff, hm, t2, e20, gL_sW, gL_sI, gL_sR, gL_sC, gL_nW, gK_sW, gK_sI, gK_sR, gK_sC, gK_nW, gN_sW, gN_sI, gN_sR, gN_sC, gN_nW, gC_sW, gC_sI, gC_sR, gC_sC, gC_nW, gZ_sW, gZ_sI, gZ_sR, gZ_sC, gZ_nW, narI, gR_sI, gI_sIk, Nat.reduceEqDiff, false_and, and_false, if_false, and_self]
  refine ⟨fun c => ?_, fun c => ?_⟩
  · have c1 : tl ≤ 380 := by
      have := (nI_leI (b := 400) (by omega) (by decide)).mp c
      omega
    have hM1 := hM.f (j := 6) (v := 0) (by decide)
    refine ⟨fun _ => ?_, fun z => absurd (by decide) z⟩
    refine sp_mApp_lp (T := T) (S := sI S 11 m 6 0) c1 ?_ 20 0 _ none (by decide) hM1.1 (fun _ _ => rfl) (by rw [gI_sIk, if_neg (fun w => by omega)]; exact t2) (fun j hj => ?_) ((Fr.rf _).mono (fun _ _ _ w => w.elim) (by decide) (by decide))
    · intro S' hM' k1 k2 k3 F
      have e40 := (F.2.1 40 (ad 0) hM1.1.2.1.2.1 (fun w => by omega)).1
      refine h1 S' c1 (hM1.tx hM' F (fun j hj => k1 j (by omega)) (fun t a w q => by omega) (by rw [e40]; exact hM1.2.1) (by omega) k2 k3 (by rw [k1 16 (by decide)]; exact hM1.2.2.2.1.2.2.2.1)) (by rw [k1 6 (by decide), gI_sIk, if_pos ⟨rfl, rfl, rfl⟩]) ((nM_fr S).nM2 (F.toM (fun t a w => by unfold nM; omega)))
    · rw [gI_sIk, if_neg (fun w => by omega), ap_lo (by omega)]; exact t3 j (by omega)
  · have c1 : ¬ tl ≤ 380 := fun w => c (nI_le (b := 400) (by omega) (by decide))
    exact ⟨fun z => absurd z (by decide), fun _ => h0 _ _ c1 (hM.f (by decide)) (by rw [gI_sIk, if_pos ⟨rfl, rfl, rfl⟩]) (nM_fr S)⟩
theorem sp_mWByte (hM : MoR S m ad tl T eA hn H C wn Wt s0 s1) {c : Int32}
    (h : ∀ S' v, MoR S' m ad tl T eA hn H C wn Wt s0 s1 → gI S' 11 m 6 = nI (rByte wn Wt c).1 → ((rByte wn Wt c).1 = 0 → v = (rByte wn Wt c).2) → Fr S S' (fun t _ => nM t) 0 0 → Q (.inl (some (.int v))) S') : WG ks (d + 2) n_X9_writtenByte [.ref m, .int c] S Q := by
  refine ⟨by simp [cat1, Value.category], by show (2 : Nat) ≤ 2; decide, ?_⟩
  show Run ks (WG ks (d + 1)) Q tb_X9_writtenByte 0 [some (.ref m), some (.int c)] [] S
  have hm := hM.1.1
  have hM1 := hM.f (j := 6) (v := 0) (by decide)
  have g6 : gI (sI S 11 m 6 0) 11 m 6 = 0 := by rw [gI_sIk, if_pos ⟨rfl, rfl, rfl⟩]
  have hW := hM.2.2.2.2.1
  obtain ⟨w1, w2, w3⟩ := hW
  have hMc := hM.1
  obtain ⟨-, -, -, -, -, -, -, -, -, -, -, -, -, ⟨a1, a2, a3, a4⟩⟩ := hMc
  simp only [e_X9_writtenByte_0, e_X9_writtenByte_1, e_X9_writtenByte_2, e_X9_writtenByte_3, e_X9_writtenByte_4, e_X9_writtenByte_7, e_X9_writtenByte_8, e_X9_writtenByte_9, e_X9_writtenByte_12, e_X9_writtenByte_15, e_X9_writtenByte_16, e_X9_writtenByte_19, e_X9_writtenByte_20, e_X9_writtenByte_23, e_X9_writtenByte_24, e_X9_writtenByte_27, e_X9_writtenByte_30, e_X9_writtenByte_31, e_X9_writtenByte_34, e_X9_writtenByte_35, e_X9_writtenByte_38, e_X9_writtenByte_39, e_X9_writtenByte_40, o_const, o_iload, o_aload, o_fload, o_dload, o_istore, o_astore, o_fstore, o_dstore, o_iinc, o_bin, o_div, o_un, o_i2l, o_i2f, o_i2d, o_f2d, o_fdiv, o_ddiv, o_lcmp, o_fcmp, o_dcmp, o_if, o_if2, o_goto, o_dup, o_dupx1, o_dup2, o_pop, o_getI, o_getR, o_putI, o_putR, o_iald, o_iast, o_bald, o_bast, o_zald, o_zast, o_aald, o_aast, o_jald, o_jast, o_dald, o_dast, o_alen, o_castA, o_new, o_newa, o_callv, o_callvN, o_calli, o_calls, o_objinit, o_iret, o_zret, o_fret, o_dret, o_aret, o_vret, o_throw, o_acopy, o_bcopy, o_clone, o_tsw, o_ldcS, o_kval, o_kcoder, o_klen, o_kald, o_tald, o_getSq, o_callk, o_callvH, gl, stl, stl2, pre2, va_rf, Value.category, catS, List.length_cons, List.length_nil, List.map_cons, List.map_nil, List.sum_cons, List.sum_nil, List.take_succ_cons, List.take_zero, List.drop_succ_cons, List.drop_zero, List.reverse_cons, List.reverse_nil, List.nil_append, List.cons_append, true_and, and_true, if_true, Nat.reduceAdd, Nat.reduceLT, Nat.reduceLeDiff, hm, w2]
  refine sp_mIn (fun c1 => ?_) (fun c1 => ?_)
  · have hc := (inI_m (by omega)).mp c1
    obtain ⟨k, kk, rfl, k3⟩ := inI_k (by omega) hc
    have ha : rByte wn Wt (nI k) = (0, Wt (nI k).toNatClampNeg) := if_pos hc
    rw [ha, k3] at h
    have v0 : vp_in (nI k) 20 := vp_in_nI (by omega) (by decide)
    simp only [behind, e_X9_writtenByte_0, e_X9_writtenByte_1, e_X9_writtenByte_2, e_X9_writtenByte_3, e_X9_writtenByte_4, e_X9_writtenByte_7, e_X9_writtenByte_8, e_X9_writtenByte_9, e_X9_writtenByte_12, e_X9_writtenByte_15, e_X9_writtenByte_16, e_X9_writtenByte_19, e_X9_writtenByte_20, e_X9_writtenByte_23, e_X9_writtenByte_24, e_X9_writtenByte_27, e_X9_writtenByte_30, e_X9_writtenByte_31, e_X9_writtenByte_34, e_X9_writtenByte_35, e_X9_writtenByte_38, e_X9_writtenByte_39, e_X9_writtenByte_40, o_const, o_iload, o_aload, o_fload, o_dload, o_istore, o_astore, o_fstore, o_dstore, o_iinc, o_bin, o_div, o_un, o_i2l, o_i2f, o_i2d, o_f2d, o_fdiv, o_ddiv, o_lcmp, o_fcmp, o_dcmp, o_if, o_if2, o_goto, o_dup, o_dupx1, o_dup2, o_pop, o_getI, o_getR, o_putI, o_putR, o_iald, o_iast, o_bald, o_bast, o_zald, o_zast, o_aald, o_aast, o_jald, o_jast, o_dald, o_dast, o_alen, o_castA, o_new, o_newa, o_callv, o_callvN, o_calli, o_calls, o_objinit, o_iret, o_zret, o_fret, o_dret, o_aret, o_vret, o_throw, o_acopy, o_bcopy, o_clone, o_tsw, o_ldcS, o_kval, o_kcoder, o_klen, o_kald, o_tald, o_getSq, o_callk, o_callvH, gl, stl, stl2, pre2, va_rf, Value.category, catS, List.length_cons, List.length_nil, List.map_cons, List.map_nil, List.sum_cons, List.sum_nil, List.take_succ_cons, List.take_zero, List.drop_succ_cons, List.drop_zero, List.reverse_cons, List.reverse_nil, List.nil_append, List.cons_append, true_and, and_true, if_true, Nat.reduceAdd, Nat.reduceLT, Nat.reduceLeDiff, hm, gL_sW, gL_sI, gL_sR, gL_sC, gL_nW, gK_sW, gK_sI, gK_sR, gK_sC, gK_nW, gN_sW, gN_sI, gN_sR, gN_sC, gN_nW, gC_sW, gC_sI, gC_sR, gC_sC, gC_nW, gZ_sW, gZ_sI, gZ_sR, gZ_sC, gZ_nW, narI, gR_sI, gI_sIk, Nat.reduceEqDiff, false_and, and_false, if_false, and_self, a1, a2, a3, a4, k3, v0, w3 k kk]
    exact ⟨fun z => absurd z (by decide), fun _ => ⟨fun _ => h _ _ hM1 g6 (fun _ => rfl) (nM_fr S), fun z => absurd (by decide) z⟩⟩
  · have ha : rByte wn Wt c = (1, 0) := if_neg (fun z => c1 ((inI_m (by omega)).mpr z))
    rw [ha] at h
    simp only [behind, e_X9_writtenByte_0, e_X9_writtenByte_1, e_X9_writtenByte_2, e_X9_writtenByte_3, e_X9_writtenByte_4, e_X9_writtenByte_7, e_X9_writtenByte_8, e_X9_writtenByte_9, e_X9_writtenByte_12, e_X9_writtenByte_15, e_X9_writtenByte_16, e_X9_writtenByte_19, e_X9_writtenByte_20, e_X9_writtenByte_23, e_X9_writtenByte_24, e_X9_writtenByte_27, e_X9_writtenByte_30, e_X9_writtenByte_31, e_X9_writtenByte_34, e_X9_writtenByte_35, e_X9_writtenByte_38, e_X9_writtenByte_39, e_X9_writtenByte_40, o_const, o_iload, o_aload, o_fload, o_dload, o_istore, o_astore, o_fstore, o_dstore, o_iinc, o_bin, o_div, o_un, o_i2l, o_i2f, o_i2d, o_f2d, o_fdiv, o_ddiv, o_lcmp, o_fcmp, o_dcmp, o_if, o_if2, o_goto, o_dup, o_dupx1, o_dup2, o_pop, o_getI, o_getR, o_putI, o_putR, o_iald, o_iast, o_bald, o_bast, o_zald, o_zast, o_aald, o_aast, o_jald, o_jast, o_dald, o_dast, o_alen, o_castA, o_new, o_newa, o_callv, o_callvN, o_calli, o_calls, o_objinit, o_iret, o_zret, o_fret, o_dret, o_aret, o_vret, o_throw, o_acopy, o_bcopy, o_clone, o_tsw, o_ldcS, o_kval, o_kcoder, o_klen, o_kald, o_tald, o_getSq, o_callk, o_callvH, gl, stl, stl2, pre2, va_rf, Value.category, catS, List.length_cons, List.length_nil, List.map_cons, List.map_nil, List.sum_cons, List.sum_nil, List.take_succ_cons, List.take_zero, List.drop_succ_cons, List.drop_zero, List.reverse_cons, List.reverse_nil, List.nil_append, List.cons_append, true_and, and_true, if_true, Nat.reduceAdd, Nat.reduceLT, Nat.reduceLeDiff, hm, gL_sW, gL_sI, gL_sR, gL_sC, gL_nW, gK_sW, gK_sI, gK_sR, gK_sC, gK_nW, gN_sW, gN_sI, gN_sR, gN_sC, gN_nW, gC_sW, gC_sI, gC_sR, gC_sC, gC_nW, gZ_sW, gZ_sI, gZ_sR, gZ_sC, gZ_nW, narI, gR_sI, gI_sIk, Nat.reduceEqDiff, false_and, and_false, if_false, and_self]
    exact ⟨fun _ => ⟨fun z => absurd z (by decide), fun _ => h _ _ (hM.f (by decide)) (by rw [gI_sIk, if_pos ⟨rfl, rfl, rfl⟩]; rfl) (fun z => absurd z (by decide)) (nM_fr S)⟩, fun z => absurd (by decide) z⟩
end SPS
