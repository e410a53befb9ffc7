/-! THE MODEL: a conversion is stored -/
theorem kAdd_row {C : CSt} {x y : Nat} {b : Int32} {dr : Nat → Int32} (hnx : (sKp C).2.1 < 20) :
    (kIn (setKp C (kAdd (sKp C) x y b dr)) 0 = x ∧ kCo (setKp C (kAdd (sKp C) x y b dr)) 0 = y ∧ kBi (setKp C (kAdd (sKp C) x y b dr)) 0 = b ∧ ∀ k, k < 10 → kNo (setKp C (kAdd (sKp C) x y b dr)) 0 k = dr k) ∧
    ∀ i, i < 19 → kIn (setKp C (kAdd (sKp C) x y b dr)) (i + 1) = kIn C i ∧ kCo (setKp C (kAdd (sKp C) x y b dr)) (i + 1) = kCo C i ∧ kBi (setKp C (kAdd (sKp C) x y b dr)) (i + 1) = kBi C i ∧ ∀ k, k < 10 → kNo (setKp C (kAdd (sKp C) x y b dr)) (i + 1) k = kNo C i k := by
  have r0 : rwN (setKp C (kAdd (sKp C) x y b dr)) 0 = (sKp C).2.1 := by
    show (((sKp C).2.1 + 1) % 20 + 39 - 0) % 20 = _
    omega
  have r1 : ∀ i, i < 19 → rwN (setKp C (kAdd (sKp C) x y b dr)) (i + 1) = rwN C i := fun i hi => by
    show (((sKp C).2.1 + 1) % 20 + 39 - (i + 1)) % 20 = ((sKp C).2.1 + 39 - i) % 20
    omega
  have rn : ∀ i, i < 19 → ¬ rwN C i = (sKp C).2.1 := fun i hi e => by
    have e2 : ((sKp C).2.1 + 39 - i) % 20 = (sKp C).2.1 := e
    omega
  refine ⟨⟨?_, ?_, ?_, fun k hk => ?_⟩, fun i hi => ⟨?_, ?_, ?_, fun k hk => ?_⟩⟩
  · unfold kIn; rw [r0]; exact if_pos rfl
  · unfold kCo; rw [r0]; exact if_pos rfl
  · unfold kBi; rw [r0]; exact if_pos rfl
  · unfold kNo; rw [r0]
    refine (if_pos ⟨by omega, by omega⟩).trans ?_
    exact congrArg dr (by omega)
  · unfold kIn; rw [r1 i hi]; exact if_neg (rn i hi)
  · unfold kCo; rw [r1 i hi]; exact if_neg (rn i hi)
  · unfold kBi; rw [r1 i hi]; exact if_neg (rn i hi)
  · unfold kNo; rw [r1 i hi]
    have := rn i hi
    exact if_neg (fun w => by omega)
theorem RowR.kp {g g' : Nat → Int32} {C : CSt} {x y : Nat} {b : Int32} {dr : Nat → Int32} (h : RowR g 0 C) (hw : aWm (sSet C) ≤ 10) (hc : aCm (sSet C) ≤ 3) (hk20 : (sKp C).1 ≤ 20) (hnx : (sKp C).2.1 < 20) (he : ∀ j, (j < 51 ∧ ¬ j = 3) ∨ 691 ≤ j → g' j = g j) (h3 : g' 3 = nI (min ((sKp C).1 + 1) 20))
    (h51 : g' 51 = nI x) (h52 : g' 52 = nI y) (hth : ∀ k, k < aWm (sSet C) → g' (53 + k) = nI (thB (sSet C) b k) ∧ g' (63 + k) = dr k ∧ g' (73 + k) = (b >>> (nI k &&& 31)) &&& 1) (hs : ∀ j, j < 32 * min (sKp C).1 19 → g' (83 + j) = g (51 + j)) : RowR g' 0 (setKp C (kAdd (sKp C) x y b dr)) := by
  obtain ⟨⟨h1, h2', h3', h4', h5⟩, h6, h7, h8, h9⟩ := h
  obtain ⟨⟨k1, k2, k3, k4⟩, k5⟩ := kAdd_row (C := C) (x := x) (y := y) (b := b) (dr := dr) hnx
  refine ⟨⟨(he 0 (by decide)).trans h1, (he 1 (by decide)).trans h2', (he 2 (by decide)).trans h3', h3, (he 4 (by decide)).trans h5⟩, fun k hk => ?_, fun k hk => ?_, fun i hi => ?_, fun k hk => ?_⟩
  · have hk2 : k < aCm (sSet C) := hk
    have a := h6 k hk
    exact ⟨(he _ (by omega)).trans a.1, (he _ (by omega)).trans a.2⟩
  · have hk2 : k < aWm (sSet C) := hk
    have a := h7 k hk
    exact ⟨(he _ (by omega)).trans a.1, (he _ (by omega)).trans a.2.1, (he _ (by omega)).trans a.2.2.1, (he _ (by omega)).trans a.2.2.2⟩
  · have hi2 : i < min ((sKp C).1 + 1) 20 := hi
    cases i with
    | zero =>
      rw [k1, k2, k3]
      simp only [Nat.zero_add, Nat.mul_zero, Nat.add_zero, Nat.reduceAdd]
      refine ⟨h51, h52, fun k hk => ?_⟩
      have hk2 : k < aWm (sSet C) := hk
      rw [k4 k (by omega)]
      exact hth k hk
    | succ i =>
      obtain ⟨q1, q2, q3, q4⟩ := k5 i (by omega)
      rw [q1, q2, q3]
      obtain ⟨a1, a2, a3⟩ := h8 i (by omega)
      simp only [Nat.zero_add] at a1 a2 a3 ⊢
      have s1 := hs (32 * i) (by omega)
      have s2 := hs (32 * i + 1) (by omega)
      refine ⟨?_, ?_, fun k hk => ?_⟩
      · rw [show 51 + 32 * (i + 1) = 83 + 32 * i by omega, s1]; exact a1
      · rw [show 51 + 32 * (i + 1) + 1 = 83 + (32 * i + 1) by omega, s2, show 51 + (32 * i + 1) = 51 + 32 * i + 1 by omega]; exact a2
      · have hk2 : k < aWm (sSet C) := hk
        obtain ⟨b1, b2, b3⟩ := a3 k hk2
        have s3 := hs (32 * i + 2 + k) (by omega)
        have s4 := hs (32 * i + 12 + k) (by omega)
        have s5 := hs (32 * i + 22 + k) (by omega)
        refine ⟨?_, ?_, ?_⟩
        · rw [show 51 + 32 * (i + 1) + 2 + k = 83 + (32 * i + 2 + k) by omega, s3, show 51 + (32 * i + 2 + k) = 51 + 32 * i + 2 + k by omega]; exact b1
        · rw [show 51 + 32 * (i + 1) + 12 + k = 83 + (32 * i + 12 + k) by omega, s4, show 51 + (32 * i + 12 + k) = 51 + 32 * i + 12 + k by omega, q4 k (by omega)]; exact b2
        · rw [show 51 + 32 * (i + 1) + 22 + k = 83 + (32 * i + 22 + k) by omega, s5, show 51 + (32 * i + 22 + k) = 51 + 32 * i + 22 + k by omega]; exact b3
  · have a := h9 k hk
    exact ⟨(he _ (by omega)).trans a.1, (he _ (by omega)).trans a.2⟩
section SPS
variable {ks : Nat → Nat} {d : Nat} {Q : QP} {S : M9} {m : Nat} {ad : Nat → Nat} {C : CSt}
theorem sp_mStoS_lp (hM : MS S m ad) {n : Nat} (hn : n ≤ 19) {x y : Int32}
    (h : ∀ S' , MS S' m ad → (∀ j, j < 83 → gI S' 40 (ad 0) j = gI S 40 (ad 0) j) → (∀ j, j < 32 * n → gI S' 40 (ad 0) (83 + j) = gI S 40 (ad 0) (51 + j)) → (∀ j, 83 + 32 * n ≤ j → gI S' 40 (ad 0) j = gI S 40 (ad 0) j) → Fr S S' (fun t a => t = 40 ∧ a = ad 0) 0 0 → Run ks (WG ks d) Q tb_X9_stores 64 [some (.ref m), some (.int x), some (.int y), some (.int (nI n)), some (.int (nI 50))] [] S') :
    ∀ r S', r ≤ 32 * n → MS S' m ad → (∀ j, j < 83 + r → gI S' 40 (ad 0) j = gI S 40 (ad 0) j) → (∀ j, r ≤ j → j < 32 * n → gI S' 40 (ad 0) (83 + j) = gI S 40 (ad 0) (51 + j)) → (∀ j, 83 + 32 * n ≤ j → gI S' 40 (ad 0) j = gI S 40 (ad 0) j) → Fr S S' (fun t a => t = 40 ∧ a = ad 0) 0 0 →
      Run ks (WG ks d) Q tb_X9_stores 34 [some (.ref m), some (.int x), some (.int y), some (.int (nI n)), some (.int (nI (50 + r)))] [] S' := by
  intro r
  induction r with
  | zero =>
    intro S' _ hM' h1 h2 h3 hF
    rw [e_X9_stores_34]
    simp only [e_X9_stores_0, e_X9_stores_1, e_X9_stores_4, e_X9_stores_5, e_X9_stores_6, e_X9_stores_8, e_X9_stores_11, e_X9_stores_12, e_X9_stores_15, e_X9_stores_16, e_X9_stores_17, e_X9_stores_20, e_X9_stores_22, e_X9_stores_23, e_X9_stores_25, e_X9_stores_27, e_X9_stores_28, e_X9_stores_29, e_X9_stores_30, e_X9_stores_31, e_X9_stores_32, e_X9_stores_36, e_X9_stores_38, e_X9_stores_41, e_X9_stores_42, e_X9_stores_45, e_X9_stores_47, e_X9_stores_49, e_X9_stores_50, e_X9_stores_51, e_X9_stores_54, e_X9_stores_56, e_X9_stores_57, e_X9_stores_58, e_X9_stores_61, e_X9_stores_65, e_X9_stores_68, e_X9_stores_69, e_X9_stores_70, e_X9_stores_71, e_X9_stores_72, e_X9_stores_73, e_X9_stores_74, e_X9_stores_77, e_X9_stores_79, e_X9_stores_80, e_X9_stores_81, e_X9_stores_82, e_X9_stores_85, e_X9_stores_87, e_X9_stores_88, e_X9_stores_89, e_X9_stores_90, e_X9_stores_92, e_X9_stores_94, e_X9_stores_95, e_X9_stores_98, e_X9_stores_99, e_X9_stores_100, e_X9_stores_103, e_X9_stores_104, e_X9_stores_107, e_X9_stores_109, e_X9_stores_111, e_X9_stores_112, e_X9_stores_113, e_X9_stores_116, e_X9_stores_118, e_X9_stores_119, e_X9_stores_120, e_X9_stores_121, e_X9_stores_124, e_X9_stores_126, e_X9_stores_128, e_X9_stores_129, e_X9_stores_130, e_X9_stores_133, e_X9_stores_135, e_X9_stores_136, e_X9_stores_137, e_X9_stores_138, e_X9_stores_141, e_X9_stores_143, e_X9_stores_145, e_X9_stores_146, e_X9_stores_147, e_X9_stores_150, e_X9_stores_152, e_X9_stores_153, e_X9_stores_154, e_X9_stores_157, e_X9_stores_160, o_const, o_iload, o_aload, o_fload, o_dload, o_istore, o_astore, o_fstore, o_dstore, o_iinc, o_bin, o_div, o_un, o_i2l, o_i2f, o_i2d, o_f2d, o_fdiv, o_ddiv, o_lcmp, o_fcmp, o_dcmp, o_if, o_if2, o_goto, o_dup, o_dupx1, o_dup2, o_pop, o_getI, o_getR, o_putI, o_putR, o_iald, o_iast, o_bald, o_bast, o_zald, o_zast, o_aald, o_aast, o_jald, o_jast, o_dald, o_dast, o_alen, o_castA, o_new, o_newa, o_callv, o_callvN, o_calli, o_calls, o_objinit, o_iret, o_zret, o_fret, o_dret, o_aret, o_vret, o_throw, o_acopy, o_bcopy, o_clone, o_tsw, o_ldcS, o_kval, o_kcoder, o_klen, o_kald, o_tald, o_getSq, o_callk, o_callvH, gl, stl, stl2, pre2, va_rf, Value.category, catS, List.length_cons, List.length_nil, List.map_cons, List.map_nil, List.sum_cons, List.sum_nil, List.take_succ_cons, List.take_zero, List.drop_succ_cons, List.drop_zero, List.reverse_cons, List.reverse_nil, List.nil_append, List.cons_append, true_and, and_true, if_true, Nat.reduceAdd, Nat.reduceLT, Nat.reduceLeDiff]
    exact ⟨fun _ => h S' hM' h1 (fun j hj => h2 j (Nat.zero_le _) hj) h3 hF, fun c => absurd (by decide) c⟩
  | succ r ih =>
    intro S' hr hM' h1 h2 h3 hF
    have hMc := hM'
    obtain ⟨⟨m1, m2⟩, ⟨a1, a2, a3, a4⟩, -⟩ := hMc
    have e1 : nI (50 + (r + 1)) + 32 = nI (83 + r) := by rw [show (32 : Int32) = nI 32 from rfl, nI_add]; exact congrArg nI (by omega)
    have e2 : nI (50 + (r + 1)) + (-1) = nI (50 + r) := by rw [← Nat.add_assoc]; exact pk_m1 (50 + r)
    have q1 : (nI (83 + r)).toNatClampNeg = 83 + r := nI_clamp (by omega)
    have q2 : (nI (50 + (r + 1))).toNatClampNeg = 51 + r := by rw [nI_clamp (by omega)]; omega
    have hv : gI S' 40 (ad 0) (51 + r) = gI S 40 (ad 0) (51 + r) := h1 _ (by omega)
    rw [e_X9_stores_34]
    simp only [e_X9_stores_0, e_X9_stores_1, e_X9_stores_4, e_X9_stores_5, e_X9_stores_6, e_X9_stores_8, e_X9_stores_11, e_X9_stores_12, e_X9_stores_15, e_X9_stores_16, e_X9_stores_17, e_X9_stores_20, e_X9_stores_22, e_X9_stores_23, e_X9_stores_25, e_X9_stores_27, e_X9_stores_28, e_X9_stores_29, e_X9_stores_30, e_X9_stores_31, e_X9_stores_32, e_X9_stores_36, e_X9_stores_38, e_X9_stores_41, e_X9_stores_42, e_X9_stores_45, e_X9_stores_47, e_X9_stores_49, e_X9_stores_50, e_X9_stores_51, e_X9_stores_54, e_X9_stores_56, e_X9_stores_57, e_X9_stores_58, e_X9_stores_61, e_X9_stores_65, e_X9_stores_68, e_X9_stores_69, e_X9_stores_70, e_X9_stores_71, e_X9_stores_72, e_X9_stores_73, e_X9_stores_74, e_X9_stores_77, e_X9_stores_79, e_X9_stores_80, e_X9_stores_81, e_X9_stores_82, e_X9_stores_85, e_X9_stores_87, e_X9_stores_88, e_X9_stores_89, e_X9_stores_90, e_X9_stores_92, e_X9_stores_94, e_X9_stores_95, e_X9_stores_98, e_X9_stores_99, e_X9_stores_100, e_X9_stores_103, e_X9_stores_104, e_X9_stores_107, e_X9_stores_109, e_X9_stores_111, e_X9_stores_112, e_X9_stores_113, e_X9_stores_116, e_X9_stores_118, e_X9_stores_119, e_X9_stores_120, e_X9_stores_121, e_X9_stores_124, e_X9_stores_126, e_X9_stores_128, e_X9_stores_129, e_X9_stores_130, e_X9_stores_133, e_X9_stores_135, e_X9_stores_136, e_X9_stores_137, e_X9_stores_138, e_X9_stores_141, e_X9_stores_143, e_X9_stores_145, e_X9_stores_146, e_X9_stores_147, e_X9_stores_150, e_X9_stores_152, e_X9_stores_153, e_X9_stores_154, e_X9_stores_157, e_X9_stores_160, o_const, o_iload, o_aload, o_fload, o_dload, o_istore, o_astore, o_fstore, o_dstore, o_iinc, o_bin, o_div, o_un, o_i2l, o_i2f, o_i2d, o_f2d, o_fdiv, o_ddiv, o_lcmp, o_fcmp, o_dcmp, o_if, o_if2, o_goto, o_dup, o_dupx1, o_dup2, o_pop, o_getI, o_getR, o_putI, o_putR, o_iald, o_iast, o_bald, o_bast, o_zald, o_zast, o_aald, o_aast, o_jald, o_jast, o_dald, o_dast, o_alen, o_castA, o_new, o_newa, o_callv, o_callvN, o_calli, o_calls, o_objinit, o_iret, o_zret, o_fret, o_dret, o_aret, o_vret, o_throw, o_acopy, o_bcopy, o_clone, o_tsw, o_ldcS, o_kval, o_kcoder, o_klen, o_kald, o_tald, o_getSq, o_callk, o_callvH, gl, stl, stl2, pre2, va_rf, Value.category, catS, List.length_cons, List.length_nil, List.map_cons, List.map_nil, List.sum_cons, List.sum_nil, List.take_succ_cons, List.take_zero, List.drop_succ_cons, List.drop_zero, List.reverse_cons, List.reverse_nil, List.nil_append, List.cons_append, true_and, and_true, if_true, Nat.reduceAdd, Nat.reduceLT, Nat.reduceLeDiff, m1, m2, a1, a2, a3, a4, e1, e2, q1, q2, hv]
    have F2 := Fr.sI S' 40 (ad 0) (83 + r) (gI S 40 (ad 0) (51 + r))
    refine ⟨fun c => absurd c (nI_nlt (a := 50 + (r + 1)) (b := 51) (by omega) (by omega)), fun _ => ⟨vp_in_nI (by omega) (by decide), vp_in_nI (by omega) (by decide), ih _ (by omega) (hM'.fr F2 (by rw [gR_sI])) (fun j hj => ?_) (fun j hj hj2 => ?_) (fun j hj => ?_) ((hF.trans F2).mono (fun _ _ _ w => w.elim id id) (by decide) (by decide))⟩⟩
    · rw [gI_sIk, if_neg (fun w => by omega)]; exact h1 j (by omega)
    · rw [gI_sIk]
      by_cases e : j = r
      · rw [if_pos ⟨rfl, rfl, by omega⟩, e]
      · rw [if_neg (fun w => by omega)]; exact h2 j (by omega) hj2
    · rw [gI_sIk, if_neg (fun w => by omega)]; exact h3 j hj
theorem sp_mStoW_lp (hM : MS S m ad) {W : Nat} (hW : W ≤ 10) (g1 : gI S 40 (ad 0) 1 = nI W) {x y z : Int32}
    (h : ∀ S', MS S' m ad → (∀ j, j < 53 ∨ 83 ≤ j → gI S' 40 (ad 0) j = gI S 40 (ad 0) j) → (∀ j, j < W → gI S' 40 (ad 0) (53 + j) = gI S 45 (ad 17) j ∧ gI S' 40 (ad 0) (63 + j) = gI S 46 (ad 18) j ∧ gI S' 40 (ad 0) (73 + j) = gI S 47 (ad 19) j) → Fr S S' (fun t a => t = 40 ∧ a = ad 0) 0 0 → Q (.inl none) S') :
    ∀ r k S', k + r = W → MS S' m ad → (∀ j, j < 53 ∨ 83 ≤ j → gI S' 40 (ad 0) j = gI S 40 (ad 0) j) → (∀ j, j < k → gI S' 40 (ad 0) (53 + j) = gI S 45 (ad 17) j ∧ gI S' 40 (ad 0) (63 + j) = gI S 46 (ad 18) j ∧ gI S' 40 (ad 0) (73 + j) = gI S 47 (ad 19) j) → Fr S S' (fun t a => t = 40 ∧ a = ad 0) 0 0 →
      Run ks (WG ks d) Q tb_X9_stores 92 [some (.ref m), some (.int x), some (.int y), some (.int z), some (.int (nI k))] [] S' := by
  intro r
  have c1 : Int32.toNatClampNeg 1 = 1 := by decide
  have v1 : vp_in 1 21153 := vp_in_nI (n := 1) (by decide) (by decide)
  have hMd := hM
  obtain ⟨-, -, -, -, -, -, -, ⟨-, d17, -⟩, ⟨-, d18, -⟩, ⟨-, d19, -⟩, -⟩ := hMd
  induction r with
  | zero =>
    intro k S' hk hM' h1 h2 hF
    have e : k = W := by omega
    subst e
    have hMc := hM'
    obtain ⟨⟨m1, m2⟩, ⟨a1, a2, a3, a4⟩, -⟩ := hMc
    rw [e_X9_stores_92]
    simp only [e_X9_stores_0, e_X9_stores_1, e_X9_stores_4, e_X9_stores_5, e_X9_stores_6, e_X9_stores_8, e_X9_stores_11, e_X9_stores_12, e_X9_stores_15, e_X9_stores_16, e_X9_stores_17, e_X9_stores_20, e_X9_stores_22, e_X9_stores_23, e_X9_stores_25, e_X9_stores_27, e_X9_stores_28, e_X9_stores_29, e_X9_stores_30, e_X9_stores_31, e_X9_stores_32, e_X9_stores_34, e_X9_stores_36, e_X9_stores_38, e_X9_stores_41, e_X9_stores_42, e_X9_stores_45, e_X9_stores_47, e_X9_stores_49, e_X9_stores_50, e_X9_stores_51, e_X9_stores_54, e_X9_stores_56, e_X9_stores_57, e_X9_stores_58, e_X9_stores_61, e_X9_stores_64, e_X9_stores_65, e_X9_stores_68, e_X9_stores_69, e_X9_stores_70, e_X9_stores_71, e_X9_stores_72, e_X9_stores_73, e_X9_stores_74, e_X9_stores_77, e_X9_stores_79, e_X9_stores_80, e_X9_stores_81, e_X9_stores_82, e_X9_stores_85, e_X9_stores_87, e_X9_stores_88, e_X9_stores_89, e_X9_stores_90, e_X9_stores_94, e_X9_stores_95, e_X9_stores_98, e_X9_stores_99, e_X9_stores_100, e_X9_stores_103, e_X9_stores_104, e_X9_stores_107, e_X9_stores_109, e_X9_stores_111, e_X9_stores_112, e_X9_stores_113, e_X9_stores_116, e_X9_stores_118, e_X9_stores_119, e_X9_stores_120, e_X9_stores_121, e_X9_stores_124, e_X9_stores_126, e_X9_stores_128, e_X9_stores_129, e_X9_stores_130, e_X9_stores_133, e_X9_stores_135, e_X9_stores_136, e_X9_stores_137, e_X9_stores_138, e_X9_stores_141, e_X9_stores_143, e_X9_stores_145, e_X9_stores_146, e_X9_stores_147, e_X9_stores_150, e_X9_stores_152, e_X9_stores_153, e_X9_stores_154, e_X9_stores_157, e_X9_stores_160, o_const, o_iload, o_aload, o_fload, o_dload, o_istore, o_astore, o_fstore, o_dstore, o_iinc, o_bin, o_div, o_un, o_i2l, o_i2f, o_i2d, o_f2d, o_fdiv, o_ddiv, o_lcmp, o_fcmp, o_dcmp, o_if, o_if2, o_goto, o_dup, o_dupx1, o_dup2, o_pop, o_getI, o_getR, o_putI, o_putR, o_iald, o_iast, o_bald, o_bast, o_zald, o_zast, o_aald, o_aast, o_jald, o_jast, o_dald, o_dast, o_alen, o_castA, o_new, o_newa, o_callv, o_callvN, o_calli, o_calls, o_objinit, o_iret, o_zret, o_fret, o_dret, o_aret, o_vret, o_throw, o_acopy, o_bcopy, o_clone, o_tsw, o_ldcS, o_kval, o_kcoder, o_klen, o_kald, o_tald, o_getSq, o_callk, o_callvH, gl, stl, stl2, pre2, va_rf, Value.category, catS, List.length_cons, List.length_nil, List.map_cons, List.map_nil, List.sum_cons, List.sum_nil, List.take_succ_cons, List.take_zero, List.drop_succ_cons, List.drop_zero, List.reverse_cons, List.reverse_nil, List.nil_append, List.cons_append, true_and, and_true, if_true, Nat.reduceAdd, Nat.reduceLT, Nat.reduceLeDiff, m1, m2, a1, a2, a3, a4, c1, v1, (h1 1 (by decide)).trans g1]
    exact ⟨fun _ => h S' hM' h1 h2 hF, fun c => absurd (nI_le (Nat.le_refl _) (by omega)) c⟩
  | succ r ih =>
    intro k S' hk hM' h1 h2 hF
    have hMc := hM'
    obtain ⟨⟨m1, m2⟩, ⟨a1, a2, a3, a4⟩, -, -, -, -, -, ⟨t1, t2, t3, t4⟩, ⟨n1, n2, n3, n4⟩, ⟨b1, b2, b3, b4⟩, -⟩ := hMc
    have e53 : (53 : Int32) + nI k = nI (53 + k) := by rw [show (53 : Int32) = nI 53 from rfl, nI_add]
    have e63 : (63 : Int32) + nI k = nI (63 + k) := by rw [show (63 : Int32) = nI 63 from rfl, nI_add]
    have e73 : (73 : Int32) + nI k = nI (73 + k) := by rw [show (73 : Int32) = nI 73 from rfl, nI_add]
    have q53 : (nI (53 + k)).toNatClampNeg = 53 + k := nI_clamp (by omega)
    have q63 : (nI (63 + k)).toNatClampNeg = 63 + k := nI_clamp (by omega)
    have q73 : (nI (73 + k)).toNatClampNeg = 73 + k := nI_clamp (by omega)
    have q0 : (nI k).toNatClampNeg = k := nI_clamp (by omega)
    have w53 : vp_in (nI (53 + k)) 21153 := vp_in_nI (by omega) (by decide)
    have w63 : vp_in (nI (63 + k)) 21153 := vp_in_nI (by omega) (by decide)
    have w73 : vp_in (nI (73 + k)) 21153 := vp_in_nI (by omega) (by decide)
    have w10 : vp_in (nI k) 10 := vp_in_nI (by omega) (by decide)
    have f45 := (hF.2.1 45 (ad 17) d17 (fun w => absurd w.1 (by decide))).1
    have f46 := (hF.2.1 46 (ad 18) d18 (fun w => absurd w.1 (by decide))).1
    have f47 := (hF.2.1 47 (ad 19) d19 (fun w => absurd w.1 (by decide))).1
    rw [e_X9_stores_92]
    simp only [e_X9_stores_0, e_X9_stores_1, e_X9_stores_4, e_X9_stores_5, e_X9_stores_6, e_X9_stores_8, e_X9_stores_11, e_X9_stores_12, e_X9_stores_15, e_X9_stores_16, e_X9_stores_17, e_X9_stores_20, e_X9_stores_22, e_X9_stores_23, e_X9_stores_25, e_X9_stores_27, e_X9_stores_28, e_X9_stores_29, e_X9_stores_30, e_X9_stores_31, e_X9_stores_32, e_X9_stores_34, e_X9_stores_36, e_X9_stores_38, e_X9_stores_41, e_X9_stores_42, e_X9_stores_45, e_X9_stores_47, e_X9_stores_49, e_X9_stores_50, e_X9_stores_51, e_X9_stores_54, e_X9_stores_56, e_X9_stores_57, e_X9_stores_58, e_X9_stores_61, e_X9_stores_64, e_X9_stores_65, e_X9_stores_68, e_X9_stores_69, e_X9_stores_70, e_X9_stores_71, e_X9_stores_72, e_X9_stores_73, e_X9_stores_74, e_X9_stores_77, e_X9_stores_79, e_X9_stores_80, e_X9_stores_81, e_X9_stores_82, e_X9_stores_85, e_X9_stores_87, e_X9_stores_88, e_X9_stores_89, e_X9_stores_90, e_X9_stores_94, e_X9_stores_95, e_X9_stores_98, e_X9_stores_99, e_X9_stores_100, e_X9_stores_103, e_X9_stores_104, e_X9_stores_107, e_X9_stores_109, e_X9_stores_111, e_X9_stores_112, e_X9_stores_113, e_X9_stores_116, e_X9_stores_118, e_X9_stores_119, e_X9_stores_120, e_X9_stores_121, e_X9_stores_124, e_X9_stores_126, e_X9_stores_128, e_X9_stores_129, e_X9_stores_130, e_X9_stores_133, e_X9_stores_135, e_X9_stores_136, e_X9_stores_137, e_X9_stores_138, e_X9_stores_141, e_X9_stores_143, e_X9_stores_145, e_X9_stores_146, e_X9_stores_147, e_X9_stores_150, e_X9_stores_152, e_X9_stores_153, e_X9_stores_154, e_X9_stores_157, e_X9_stores_160, o_const, o_iload, o_aload, o_fload, o_dload, o_istore, o_astore, o_fstore, o_dstore, o_iinc, o_bin, o_div, o_un, o_i2l, o_i2f, o_i2d, o_f2d, o_fdiv, o_ddiv, o_lcmp, o_fcmp, o_dcmp, o_if, o_if2, o_goto, o_dup, o_dupx1, o_dup2, o_pop, o_getI, o_getR, o_putI, o_putR, o_iald, o_iast, o_bald, o_bast, o_zald, o_zast, o_aald, o_aast, o_jald, o_jast, o_dald, o_dast, o_alen, o_castA, o_new, o_newa, o_callv, o_callvN, o_calli, o_calls, o_objinit, o_iret, o_zret, o_fret, o_dret, o_aret, o_vret, o_throw, o_acopy, o_bcopy, o_clone, o_tsw, o_ldcS, o_kval, o_kcoder, o_klen, o_kald, o_tald, o_getSq, o_callk, o_callvH, gl, stl, stl2, pre2, va_rf, Value.category, catS, List.length_cons, List.length_nil, List.map_cons, List.map_nil, List.sum_cons, List.sum_nil, List.take_succ_cons, List.take_zero, List.drop_succ_cons, List.drop_zero, List.reverse_cons, List.reverse_nil, List.nil_append, List.cons_append, true_and, and_true, if_true, Nat.reduceAdd, Nat.reduceLT, Nat.reduceLeDiff, m1, m2, a1, a2, a3, a4, t1, t2, t3, t4, n1, n2, n3, n4, b1, b2, b3, b4, c1, v1, (h1 1 (by decide)).trans g1, e53, e63, e73, q53, q63, q73, q0, w53, w63, w73, w10, gL_sW, gL_sI, gL_sR, gL_sC, gL_nW, gK_sW, gK_sI, gK_sR, gK_sC, gK_nW, gN_sW, gN_sI, gN_sR, gN_sC, gN_nW, gC_sW, gC_sI, gC_sR, gC_sC, gC_nW, gZ_sW, gZ_sI, gZ_sR, gZ_sC, gZ_nW, gR_sI, gI_sIk, Nat.reduceEqDiff, false_and, if_false, f45, f46, f47, nI_1]
    have F1 := Fr.sI S' 40 (ad 0) (53 + k) (gI S 45 (ad 17) k)
    have F2 := Fr.sI (sI S' 40 (ad 0) (53 + k) (gI S 45 (ad 17) k)) 40 (ad 0) (63 + k) (gI S 46 (ad 18) k)
    have F3 := Fr.sI (sI (sI S' 40 (ad 0) (53 + k) (gI S 45 (ad 17) k)) 40 (ad 0) (63 + k) (gI S 46 (ad 18) k)) 40 (ad 0) (73 + k) (gI S 47 (ad 19) k)
    refine ⟨fun c => absurd ((nI_leI (by omega) (by omega)).mp c) (by omega), fun _ => (ih (k + 1) _ (by omega) (((hM'.fr F1 (by rw [gR_sI])).fr F2 (by rw [gR_sI])).fr F3 (by rw [gR_sI])) (fun j hj => ?_) (fun j hj => ?_) ((hF.trans (F1.trans (F2.trans F3))).mono (fun _ _ _ w => by rcases w with w | w | w | w <;> exact w) (by decide) (by decide)))⟩
    · rw [gI_sIk, if_neg (fun w => by omega), gI_sIk, if_neg (fun w => by omega), gI_sIk, if_neg (fun w => by omega)]; exact h1 j hj
    · by_cases e : j = k
      · subst e
        refine ⟨?_, ?_, ?_⟩
        · rw [gI_sIk, if_neg (fun w => by omega), gI_sIk, if_neg (fun w => by omega), gI_sIk, if_pos ⟨rfl, rfl, rfl⟩]
        · rw [gI_sIk, if_neg (fun w => by omega), gI_sIk, if_pos ⟨rfl, rfl, rfl⟩]
        · rw [gI_sIk, if_pos ⟨rfl, rfl, rfl⟩]
      · obtain ⟨u1, u2, u3⟩ := h2 j (by omega)
        refine ⟨?_, ?_, ?_⟩
        · rw [gI_sIk, if_neg (fun w => by omega), gI_sIk, if_neg (fun w => by omega), gI_sIk, if_neg (fun w => by omega)]; exact u1
        · rw [gI_sIk, if_neg (fun w => by omega), gI_sIk, if_neg (fun w => by omega), gI_sIk, if_neg (fun w => by omega)]; exact u2
        · rw [gI_sIk, if_neg (fun w => by omega), gI_sIk, if_neg (fun w => by omega), gI_sIk, if_neg (fun w => by omega)]; exact u3
theorem sp_mStores (hM : MS S m ad) (hR : RowR (gI S 40 (ad 0)) 0 C) (hV : SetV (sSet C)) (hk20 : (sKp C).1 ≤ 20) (hnx : (sKp C).2.1 < 20) {x y : Nat} {b : Int32} {dr : Nat → Int32}
    (hth : ∀ k, k < aWm (sSet C) → gI S 45 (ad 17) k = nI (thB (sSet C) b k) ∧ gI S 46 (ad 18) k = dr k ∧ gI S 47 (ad 19) k = (b >>> (nI k &&& 31)) &&& 1)
    (h : ∀ S', MS S' m ad → RowR (gI S' 40 (ad 0)) 0 (setKp C (kAdd (sKp C) x y b dr)) → Fr S S' (fun t a => t = 40 ∧ a = ad 0) 0 0 → Q (.inl none) S') : WG ks (d + 1) n_X9_stores [.ref m, .int (nI x), .int (nI y)] S Q := by
  refine ⟨by simp [cat1, Value.category], by show (3 : Nat) ≤ 5; decide, ?_⟩
  show Run ks (WG ks d) Q tb_X9_stores 0 [some (.ref m), some (.int (nI x)), some (.int (nI y)), none, none] [] S
  have hw10 := hV.2.1.2
  have hc3 := hV.1.2
  have hMc := hM
  obtain ⟨⟨m1, m2⟩, ⟨a1, a2, a3, a4⟩, -, -, -, -, -, ⟨-, d17, -⟩, ⟨-, d18, -⟩, ⟨-, d19, -⟩, -⟩ := hMc
  have g3 : gI S 40 (ad 0) 3 = nI (sKp C).1 := hR.1.2.2.2.1
  have c3 : Int32.toNatClampNeg 3 = 3 := by decide
  have v3 : vp_in 3 21153 := vp_in_nI (n := 3) (by decide) (by decide)
  have hgo : ∀ n, n = min (sKp C).1 19 → Run ks (WG ks d) Q tb_X9_stores 22 [some (.ref m), some (.int (nI x)), some (.int (nI y)), none, none] [.int (nI n)] S := by
    intro n hn
    have e1 : (51 : Int32) + 32 * nI n - 1 = nI (50 + 32 * n) := by
      rw [show (32 : Int32) = nI 32 from rfl, pk_mul, show (51 : Int32) = nI 51 from rfl, nI_add, show (1 : Int32) = nI 1 from rfl, pk_sub (by omega)]
      exact congrArg nI (by omega)
    simp only [e_X9_stores_0, e_X9_stores_1, e_X9_stores_4, e_X9_stores_5, e_X9_stores_6, e_X9_stores_8, e_X9_stores_11, e_X9_stores_12, e_X9_stores_15, e_X9_stores_16, e_X9_stores_17, e_X9_stores_20, e_X9_stores_22, e_X9_stores_23, e_X9_stores_25, e_X9_stores_27, e_X9_stores_28, e_X9_stores_29, e_X9_stores_30, e_X9_stores_31, e_X9_stores_32, e_X9_stores_36, e_X9_stores_38, e_X9_stores_41, e_X9_stores_42, e_X9_stores_45, e_X9_stores_47, e_X9_stores_49, e_X9_stores_50, e_X9_stores_51, e_X9_stores_54, e_X9_stores_56, e_X9_stores_57, e_X9_stores_58, e_X9_stores_61, e_X9_stores_65, e_X9_stores_68, e_X9_stores_69, e_X9_stores_70, e_X9_stores_71, e_X9_stores_72, e_X9_stores_73, e_X9_stores_74, e_X9_stores_77, e_X9_stores_79, e_X9_stores_80, e_X9_stores_81, e_X9_stores_82, e_X9_stores_85, e_X9_stores_87, e_X9_stores_88, e_X9_stores_89, e_X9_stores_90, e_X9_stores_94, e_X9_stores_95, e_X9_stores_98, e_X9_stores_99, e_X9_stores_100, e_X9_stores_103, e_X9_stores_104, e_X9_stores_107, e_X9_stores_109, e_X9_stores_111, e_X9_stores_112, e_X9_stores_113, e_X9_stores_116, e_X9_stores_118, e_X9_stores_119, e_X9_stores_120, e_X9_stores_121, e_X9_stores_124, e_X9_stores_126, e_X9_stores_128, e_X9_stores_129, e_X9_stores_130, e_X9_stores_133, e_X9_stores_135, e_X9_stores_136, e_X9_stores_137, e_X9_stores_138, e_X9_stores_141, e_X9_stores_143, e_X9_stores_145, e_X9_stores_146, e_X9_stores_147, e_X9_stores_150, e_X9_stores_152, e_X9_stores_153, e_X9_stores_154, e_X9_stores_157, e_X9_stores_160, o_const, o_iload, o_aload, o_fload, o_dload, o_istore, o_astore, o_fstore, o_dstore, o_iinc, o_bin, o_div, o_un, o_i2l, o_i2f, o_i2d, o_f2d, o_fdiv, o_ddiv, o_lcmp, o_fcmp, o_dcmp, o_if, o_if2, o_goto, o_dup, o_dupx1, o_dup2, o_pop, o_getI, o_getR, o_putI, o_putR, o_iald, o_iast, o_bald, o_bast, o_zald, o_zast, o_aald, o_aast, o_jald, o_jast, o_dald, o_dast, o_alen, o_castA, o_new, o_newa, o_callv, o_callvN, o_calli, o_calls, o_objinit, o_iret, o_zret, o_fret, o_dret, o_aret, o_vret, o_throw, o_acopy, o_bcopy, o_clone, o_tsw, o_ldcS, o_kval, o_kcoder, o_klen, o_kald, o_tald, o_getSq, o_callk, o_callvH, gl, stl, stl2, pre2, va_rf, Value.category, catS, List.length_cons, List.length_nil, List.map_cons, List.map_nil, List.sum_cons, List.sum_nil, List.take_succ_cons, List.take_zero, List.drop_succ_cons, List.drop_zero, List.reverse_cons, List.reverse_nil, List.nil_append, List.cons_append, true_and, and_true, if_true, Nat.reduceAdd, Nat.reduceLT, Nat.reduceLeDiff, e1]
    refine (sp_mStoS_lp hM (n := n) (by omega) ?_ (32 * n) S (Nat.le_refl _) hM (fun _ _ => rfl) (fun j h1 h2 => absurd h2 (by omega)) (fun _ _ => rfl) ((Fr.rf S).mono (fun _ _ _ w => w.elim) (by decide) (by decide)))
    intro S1 hM1 h1 h2 h3 F1
    have hMd := hM1
    obtain ⟨⟨i1, i2⟩, ⟨j1, j2, j3, j4⟩, -⟩ := hMd
    have q51 : Int32.toNatClampNeg 51 = 51 := by decide
    have q52 : Int32.toNatClampNeg 52 = 52 := by decide
    have v51 : vp_in 51 21153 := vp_in_nI (n := 51) (by decide) (by decide)
    have v52 : vp_in 52 21153 := vp_in_nI (n := 52) (by decide) (by decide)
    rw [e_X9_stores_64]
    simp only [e_X9_stores_0, e_X9_stores_1, e_X9_stores_4, e_X9_stores_5, e_X9_stores_6, e_X9_stores_8, e_X9_stores_11, e_X9_stores_12, e_X9_stores_15, e_X9_stores_16, e_X9_stores_17, e_X9_stores_20, e_X9_stores_22, e_X9_stores_23, e_X9_stores_25, e_X9_stores_27, e_X9_stores_28, e_X9_stores_29, e_X9_stores_30, e_X9_stores_31, e_X9_stores_32, e_X9_stores_36, e_X9_stores_38, e_X9_stores_41, e_X9_stores_42, e_X9_stores_45, e_X9_stores_47, e_X9_stores_49, e_X9_stores_50, e_X9_stores_51, e_X9_stores_54, e_X9_stores_56, e_X9_stores_57, e_X9_stores_58, e_X9_stores_61, e_X9_stores_65, e_X9_stores_68, e_X9_stores_69, e_X9_stores_70, e_X9_stores_71, e_X9_stores_72, e_X9_stores_73, e_X9_stores_74, e_X9_stores_77, e_X9_stores_79, e_X9_stores_80, e_X9_stores_81, e_X9_stores_82, e_X9_stores_85, e_X9_stores_87, e_X9_stores_88, e_X9_stores_89, e_X9_stores_90, e_X9_stores_94, e_X9_stores_95, e_X9_stores_98, e_X9_stores_99, e_X9_stores_100, e_X9_stores_103, e_X9_stores_104, e_X9_stores_107, e_X9_stores_109, e_X9_stores_111, e_X9_stores_112, e_X9_stores_113, e_X9_stores_116, e_X9_stores_118, e_X9_stores_119, e_X9_stores_120, e_X9_stores_121, e_X9_stores_124, e_X9_stores_126, e_X9_stores_128, e_X9_stores_129, e_X9_stores_130, e_X9_stores_133, e_X9_stores_135, e_X9_stores_136, e_X9_stores_137, e_X9_stores_138, e_X9_stores_141, e_X9_stores_143, e_X9_stores_145, e_X9_stores_146, e_X9_stores_147, e_X9_stores_150, e_X9_stores_152, e_X9_stores_153, e_X9_stores_154, e_X9_stores_157, e_X9_stores_160, o_const, o_iload, o_aload, o_fload, o_dload, o_istore, o_astore, o_fstore, o_dstore, o_iinc, o_bin, o_div, o_un, o_i2l, o_i2f, o_i2d, o_f2d, o_fdiv, o_ddiv, o_lcmp, o_fcmp, o_dcmp, o_if, o_if2, o_goto, o_dup, o_dupx1, o_dup2, o_pop, o_getI, o_getR, o_putI, o_putR, o_iald, o_iast, o_bald, o_bast, o_zald, o_zast, o_aald, o_aast, o_jald, o_jast, o_dald, o_dast, o_alen, o_castA, o_new, o_newa, o_callv, o_callvN, o_calli, o_calls, o_objinit, o_iret, o_zret, o_fret, o_dret, o_aret, o_vret, o_throw, o_acopy, o_bcopy, o_clone, o_tsw, o_ldcS, o_kval, o_kcoder, o_klen, o_kald, o_tald, o_getSq, o_callk, o_callvH, gl, stl, stl2, pre2, va_rf, Value.category, catS, List.length_cons, List.length_nil, List.map_cons, List.map_nil, List.sum_cons, List.sum_nil, List.take_succ_cons, List.take_zero, List.drop_succ_cons, List.drop_zero, List.reverse_cons, List.reverse_nil, List.nil_append, List.cons_append, true_and, and_true, if_true, Nat.reduceAdd, Nat.reduceLT, Nat.reduceLeDiff, i1, i2, j1, j2, j3, j4, c3, v3, q51, q52, v51, v52, gL_sW, gL_sI, gL_sR, gL_sC, gL_nW, gK_sW, gK_sI, gK_sR, gK_sC, gK_nW, gN_sW, gN_sI, gN_sR, gN_sC, gN_nW, gC_sW, gC_sI, gC_sR, gC_sC, gC_nW, gZ_sW, gZ_sI, gZ_sR, gZ_sC, gZ_nW, gR_sI, nI_1]
    have F2 := Fr.sI S1 40 (ad 0) 3 (nI (n + 1))
    have F3 := Fr.sI (sI S1 40 (ad 0) 3 (nI (n + 1))) 40 (ad 0) 51 (nI x)
    have F4 := Fr.sI (sI (sI S1 40 (ad 0) 3 (nI (n + 1))) 40 (ad 0) 51 (nI x)) 40 (ad 0) 52 (nI y)
    have FF := F1.trans (F2.trans (F3.trans F4))
    have hM2 := ((hM1.fr F2 (by rw [gR_sI])).fr F3 (by rw [gR_sI])).fr F4 (by rw [gR_sI])
    generalize hS2 : sI (sI (sI S1 40 (ad 0) 3 (nI (n + 1))) 40 (ad 0) 51 (nI x)) 40 (ad 0) 52 (nI y) = S2 at *
    have hg2 : ∀ j, gI S2 40 (ad 0) j = if j = 52 then nI y else if j = 51 then nI x else if j = 3 then nI (n + 1) else gI S1 40 (ad 0) j := fun j => by
      rw [← hS2]
      simp only [gI_sIk, true_and]
    have g1 : gI S2 40 (ad 0) 1 = nI (aWm (sSet C)) := by
      rw [hg2, if_neg (by decide), if_neg (by decide), if_neg (by decide), h1 1 (by decide)]; exact hR.1.2.1
    refine (sp_mStoW_lp hM2 hw10 g1 ?_ (aWm (sSet C)) 0 S2 (by omega) hM2 (fun _ _ => rfl) (fun j hj => absurd hj (Nat.not_lt_zero j)) ((Fr.rf S2).mono (fun _ _ _ w => w.elim) (by decide) (by decide)))
    intro S3 hM3 h4 h5 F5
    have e45 := (FF.2.1 45 (ad 17) d17 (fun w => by omega)).1
    have e46 := (FF.2.1 46 (ad 18) d18 (fun w => by omega)).1
    have e47 := (FF.2.1 47 (ad 19) d19 (fun w => by omega)).1
    refine h S3 hM3 (hR.kp hw10 hc3 hk20 hnx (fun j hj => ?_) ?_ ?_ ?_ (fun k hk => ?_) (fun j hj => ?_)) ((FF.trans F5).mono (fun _ _ _ w => by omega) (by decide) (by decide))
    · rw [h4 j (by omega), hg2, if_neg (by omega), if_neg (by omega), if_neg (by omega)]
      rcases hj with hj | hj
      · exact h1 j (by omega)
      · exact h3 j (by omega)
    · rw [h4 3 (by decide), hg2, if_neg (by decide), if_neg (by decide), if_pos rfl]
      exact congrArg nI (by omega)
    · rw [h4 51 (by decide), hg2, if_neg (by decide), if_pos rfl]
    · rw [h4 52 (by decide), hg2, if_pos rfl]
    · obtain ⟨p1, p2, p3⟩ := h5 k hk
      obtain ⟨r1, r2, r3⟩ := hth k hk
      rw [p1, p2, p3, e45, e46, e47]
      exact ⟨r1, r2, r3⟩
    · rw [h4 (83 + j) (by omega), hg2, if_neg (by omega), if_neg (by omega), if_neg (by omega)]
      exact h2 j (by omega)
  simp only [e_X9_stores_0, e_X9_stores_1, e_X9_stores_4, e_X9_stores_5, e_X9_stores_6, e_X9_stores_8, e_X9_stores_11, e_X9_stores_12, e_X9_stores_15, e_X9_stores_16, e_X9_stores_17, e_X9_stores_20, e_X9_stores_23, e_X9_stores_25, e_X9_stores_27, e_X9_stores_28, e_X9_stores_29, e_X9_stores_30, e_X9_stores_31, e_X9_stores_32, e_X9_stores_36, e_X9_stores_38, e_X9_stores_41, e_X9_stores_42, e_X9_stores_45, e_X9_stores_47, e_X9_stores_49, e_X9_stores_50, e_X9_stores_51, e_X9_stores_54, e_X9_stores_56, e_X9_stores_57, e_X9_stores_58, e_X9_stores_61, e_X9_stores_65, e_X9_stores_68, e_X9_stores_69, e_X9_stores_70, e_X9_stores_71, e_X9_stores_72, e_X9_stores_73, e_X9_stores_74, e_X9_stores_77, e_X9_stores_79, e_X9_stores_80, e_X9_stores_81, e_X9_stores_82, e_X9_stores_85, e_X9_stores_87, e_X9_stores_88, e_X9_stores_89, e_X9_stores_90, e_X9_stores_94, e_X9_stores_95, e_X9_stores_98, e_X9_stores_99, e_X9_stores_100, e_X9_stores_103, e_X9_stores_104, e_X9_stores_107, e_X9_stores_109, e_X9_stores_111, e_X9_stores_112, e_X9_stores_113, e_X9_stores_116, e_X9_stores_118, e_X9_stores_119, e_X9_stores_120, e_X9_stores_121, e_X9_stores_124, e_X9_stores_126, e_X9_stores_128, e_X9_stores_129, e_X9_stores_130, e_X9_stores_133, e_X9_stores_135, e_X9_stores_136, e_X9_stores_137, e_X9_stores_138, e_X9_stores_141, e_X9_stores_143, e_X9_stores_145, e_X9_stores_146, e_X9_stores_147, e_X9_stores_150, e_X9_stores_152, e_X9_stores_153, e_X9_stores_154, e_X9_stores_157, e_X9_stores_160, o_const, o_iload, o_aload, o_fload, o_dload, o_istore, o_astore, o_fstore, o_dstore, o_iinc, o_bin, o_div, o_un, o_i2l, o_i2f, o_i2d, o_f2d, o_fdiv, o_ddiv, o_lcmp, o_fcmp, o_dcmp, o_if, o_if2, o_goto, o_dup, o_dupx1, o_dup2, o_pop, o_getI, o_getR, o_putI, o_putR, o_iald, o_iast, o_bald, o_bast, o_zald, o_zast, o_aald, o_aast, o_jald, o_jast, o_dald, o_dast, o_alen, o_castA, o_new, o_newa, o_callv, o_callvN, o_calli, o_calls, o_objinit, o_iret, o_zret, o_fret, o_dret, o_aret, o_vret, o_throw, o_acopy, o_bcopy, o_clone, o_tsw, o_ldcS, o_kval, o_kcoder, o_klen, o_kald, o_tald, o_getSq, o_callk, o_callvH, gl, stl, stl2, pre2, va_rf, Value.category, catS, List.length_cons, List.length_nil, List.map_cons, List.map_nil, List.sum_cons, List.sum_nil, List.take_succ_cons, List.take_zero, List.drop_succ_cons, List.drop_zero, List.reverse_cons, List.reverse_nil, List.nil_append, List.cons_append, true_and, and_true, if_true, Nat.reduceAdd, Nat.reduceLT, Nat.reduceLeDiff, m1, m2, a1, a2, a3, a4, c3, v3, g3]
  refine ⟨fun c => ?_, fun c => ?_⟩
  · have h20 : 20 ≤ (sKp C).1 := (nI_leI (a := 20) (by decide) (by omega)).mp c
    exact hgo 19 (by omega)
  · have h20 : ¬ 20 ≤ (sKp C).1 := fun w => c (nI_le (a := 20) w (by omega))
    exact hgo _ (by omega)
end SPS
