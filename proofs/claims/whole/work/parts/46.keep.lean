/-! A STATE: a conversion, kept -/
theorem nst_D {A : ASet} {x : Int32} {z0 i : Nat} (D E : Nat → Int32) : ∀ k, (nst A x z0 i D k).1 = (nst A x z0 i E k).1 ∧ (nst A x z0 i D k).2.1 = (nst A x z0 i E k).2.1 ∧ (nst A x z0 i D k).2.2.1 = (nst A x z0 i E k).2.2.1 := by
  intro k
  induction k with
  | zero => exact ⟨rfl, rfl, rfl⟩
  | succ k ih =>
    obtain ⟨h1, h2, h3⟩ := ih
    simp only [nst, h1, h2, h3]
    split <;> split <;> exact ⟨rfl, rfl, rfl⟩
/-- the bits of a conversion with noise from weight i on, and the noise state behind it -/
def nB (A : ASet) (x : Int32) (z i : Nat) : Int32 := (nst A x z i (fun _ => 0) (aWm A - i)).2.1
def nZ (A : ASet) (x : Int32) (z i : Nat) : Nat := (nst A x z i (fun _ => 0) (aWm A - i)).2.2.1
def nDr (A : ASet) (x : Int32) (z i : Nat) (D : Nat → Int32) : Nat → Int32 := (nst A x z i D (aWm A - i)).2.2.2
theorem nZ_b {A : ASet} {x : Int32} {z i : Nat} (h : z ≤ 65535) : nZ A x z i ≤ 65535 := nst_z h _
def setKp (C : CSt) (K : CKp) : CSt := (C.1, C.2.1, C.2.2.1, K, C.2.2.2.2)
def setSn (C : CSt) (N : CSn) : CSt := (C.1, C.2.1, C.2.2.1, C.2.2.2.1, N)
def setTab (C : CSt) (T : Nat → Nat) : CSt := (C.1, T, C.2.2.1, C.2.2.2.1, C.2.2.2.2)
theorem StateR.kp {S S' : M9} {W : Nat → Nat → Prop} {c z p B L kp0 : Nat} {C : CSt} {K : CKp} (h : StateR S p B L C) (hF : Fr S S' W c z) (hW : ∀ t a, W t a → (t = 3 ∧ a = kp0) ∨ (B + 1 ≤ t ∧ t ≤ B + 4)) (hg : gR S 9 p 3 = some kp0) (hK : KpR S' kp0 B K) : StateR S' p B L (setKp C K) := by
  obtain ⟨su, tb, kp, sn, dr, pq1, pq2, pq3, pq4, pq5, pq6, pq7, pq8, hSet, hSV, hT, hKept, hSeen, ⟨df, hD⟩, hB⟩ := h
  obtain ⟨x1, x2, -⟩ := hF.1 p pq1
  cases Option.some.inj (pq6.symm.trans hg)
  have hn : ∀ t a, ¬ t = 3 → (t ≤ B ∨ B + 4 < t) → ¬ W t a := fun t a h1 h2 w => by
    rcases hW _ _ w with w | w <;> omega
  obtain ⟨y1, y2, -⟩ := hF.2.1 9 p pq1 (hn _ _ (by decide) (by omega))
  exact ⟨su, tb, kp0, sn, dr, x1, x2.trans pq2, by rw [y2]; exact pq3, by rw [y2]; exact pq4, by rw [y1]; exact pq5, by rw [y2]; exact pq6, by rw [y2]; exact pq7, by rw [y2]; exact pq8, hSet.fr hF (hn _ _ (by decide) (by omega)) (fun t a h1 h2 => hn _ _ (by omega) (by omega)), hSV, hT.fr hF (hn _ _ (by omega) (by omega)), hK,
    SeenR.fr hSeen hF (hn _ _ (by decide) (by omega)) (fun a => hn _ _ (by omega) (by omega)) (fun a => hn _ _ (by omega) (by omega)), ⟨df, hD.fr hF (hn _ _ (by omega) (by omega))⟩, hB⟩
theorem StateR.sn {S S' : M9} {W : Nat → Nat → Prop} {c z p B L L' sn0 : Nat} {C : CSt} {N : CSn} (h : StateR S p B L C) (hF : Fr S S' W c z) (hW : ∀ t a, W t a → (t = 6 ∧ a = sn0) ∨ (B + 5 ≤ t ∧ t ≤ B + 6)) (hg : gR S 9 p 4 = some sn0) (hN : SnR S' sn0 B L' N) : StateR S' p B L' (setSn C N) := by
  obtain ⟨su, tb, kp, sn, dr, pq1, pq2, pq3, pq4, pq5, pq6, pq7, pq8, hSet, hSV, hT, hKept, hSeen, ⟨df, hD⟩, hB⟩ := h
  obtain ⟨x1, x2, -⟩ := hF.1 p pq1
  cases Option.some.inj (pq7.symm.trans hg)
  have hn : ∀ t a, ¬ t = 6 → (t ≤ B + 4 ∨ B + 6 < t) → ¬ W t a := fun t a h1 h2 w => by
    rcases hW _ _ w with w | w <;> omega
  obtain ⟨y1, y2, -⟩ := hF.2.1 9 p pq1 (hn _ _ (by decide) (by omega))
  exact ⟨su, tb, kp, sn0, dr, x1, x2.trans pq2, by rw [y2]; exact pq3, by rw [y2]; exact pq4, by rw [y1]; exact pq5, by rw [y2]; exact pq6, by rw [y2]; exact pq7, by rw [y2]; exact pq8, hSet.fr hF (hn _ _ (by decide) (by omega)) (fun t a h1 h2 => hn _ _ (by omega) (by omega)), hSV, hT.fr hF (hn _ _ (by omega) (by omega)),
    KeptR.fr hKept hF (hn _ _ (by decide) (by omega)) (fun a => hn _ _ (by omega) (by omega)) (fun a => hn _ _ (by omega) (by omega)) (fun a => hn _ _ (by omega) (by omega)) (fun a => hn _ _ (by omega) (by omega)), hN, ⟨df, hD.fr hF (hn _ _ (by omega) (by omega))⟩, hB⟩
theorem StateR.tab {S S' : M9} {W : Nat → Nat → Prop} {c z p B L tb0 : Nat} {C : CSt} {T : Nat → Nat} (h : StateR S p B L C) (hF : Fr S S' W c z) (hW : ∀ t a, W t a → t = B) (hg : gR S 9 p 1 = some tb0) (hT : ArrR S' B tb0 10 (fun k => nI (T k))) : StateR S' p B L (setTab C T) := by
  obtain ⟨su, tb, kp, sn, dr, pq1, pq2, pq3, pq4, pq5, pq6, pq7, pq8, hSet, hSV, hT0, hKept, hSeen, ⟨df, hD⟩, hB⟩ := h
  obtain ⟨x1, x2, -⟩ := hF.1 p pq1
  cases Option.some.inj (pq4.symm.trans hg)
  have hn : ∀ t a, ¬ t = B → ¬ W t a := fun t a h1 w => h1 (hW _ _ w)
  obtain ⟨y1, y2, -⟩ := hF.2.1 9 p pq1 (hn _ _ (by omega))
  exact ⟨su, tb0, kp, sn, dr, x1, x2.trans pq2, by rw [y2]; exact pq3, by rw [y2]; exact pq4, by rw [y1]; exact pq5, by rw [y2]; exact pq6, by rw [y2]; exact pq7, by rw [y2]; exact pq8, hSet.fr hF (hn _ _ (by omega)) (fun t a h1 h2 => hn _ _ (by omega)), hSV, hT,
    KeptR.fr hKept hF (hn _ _ (by omega)) (fun a => hn _ _ (by omega)) (fun a => hn _ _ (by omega)) (fun a => hn _ _ (by omega)) (fun a => hn _ _ (by omega)), SeenR.fr hSeen hF (hn _ _ (by omega)) (fun a => hn _ _ (by omega)) (fun a => hn _ _ (by omega)), ⟨df, hD.fr hF (hn _ _ (by omega))⟩, hB⟩
def kAdd (K : CKp) (x y : Nat) (b : Int32) (dr : Nat → Int32) : CKp := (min (K.1 + 1) 20, (K.2.1 + 1) % 20, fun j => if j = K.2.1 then x else K.2.2.1 j, fun j => if j = K.2.1 then y else K.2.2.2.1 j, fun j => if j = K.2.1 then b else K.2.2.2.2.1 j, fun j => if K.2.1 * 10 ≤ j ∧ j < K.2.1 * 10 + 10 then dr (j - K.2.1 * 10) else K.2.2.2.2.2 j)
def nAdd (N : CSn) (x : Nat) : CSn := sAdd N.1 N.2.1 N.2.2 x (plc N.2.1 (nI x) 0 N.1)
def cvC (C : CSt) (b : Int32) : Nat := sg (cdF (sTab C) b) 0 (aWm (sSet C))
def cvK (C : CSt) (x : Nat) (D : Nat → Int32) : CSt :=
  (C.1, C.2.1, nZ (sSet C) (nI x) (sNoi C) 0, kAdd (sKp C) x (cvC C (nB (sSet C) (nI x) (sNoi C) 0)) (nB (sSet C) (nI x) (sNoi C) 0) (nDr (sSet C) (nI x) (sNoi C) 0 D), nAdd (sSn C) (cvC C (nB (sSet C) (nI x) (sNoi C) 0)))
section SPS
variable {ks : Nat → Nat} {d : Nat} {Q : QP} {S : M9} {p B L : Nat} {C : CSt}
theorem sp_noisyBits (hR : StateR S p B L C) {x : Int32} {i : Nat} (hz : sNoi C ≤ 65535) (hi : i ≤ aWm (sSet C))
    (h : ∀ S' D, StateR S' p B L (setNoi C (nZ (sSet C) x (sNoi C) i)) → Fr S S' (fun t a => (t = 9 ∧ a = p) ∨ t = B + 7) 0 0 → gR S' 9 p = gR S 9 p → (∀ dr, gR S 9 p 5 = some dr → ArrR S' (B + 7) dr 10 (nDr (sSet C) x (sNoi C) i D)) → Q (.inl (some (.int (nB (sSet C) x (sNoi C) i)))) S') : WG ks (d + 2) n_X7_noisyBits [.ref p, .int x, .int (nI i)] S Q := by
  refine ⟨by simp [cat1, Value.category], by show (3 : Nat) ≤ 7; decide, ?_⟩
  show Run ks (WG ks (d + 1)) Q tb_X7_noisyBits 0 [some (.ref p), some (.int x), some (.int (nI i)), none, none, none, none] [] S
  have hR0 := hR
  obtain ⟨su, tb, kp, sn, dr, pq1, pq2, pq3, pq4, pq5, pq6, pq7, pq8, hSet, hSV, ⟨tn1, tn2, tn3, tn4⟩, hKept, hSeen, ⟨df, dn1, dn2, dn3, dn4⟩, hB⟩ := hR0
  simp only [e_X7_noisyBits_0, e_X7_noisyBits_1, e_X7_noisyBits_2, e_X7_noisyBits_3, e_X7_noisyBits_5, e_X7_noisyBits_6, e_X7_noisyBits_10, e_X7_noisyBits_11, e_X7_noisyBits_14, e_X7_noisyBits_17, e_X7_noisyBits_20, e_X7_noisyBits_21, e_X7_noisyBits_22, e_X7_noisyBits_25, e_X7_noisyBits_28, e_X7_noisyBits_30, e_X7_noisyBits_31, e_X7_noisyBits_32, e_X7_noisyBits_34, e_X7_noisyBits_35, e_X7_noisyBits_38, e_X7_noisyBits_40, e_X7_noisyBits_41, e_X7_noisyBits_42, e_X7_noisyBits_45, e_X7_noisyBits_47, e_X7_noisyBits_50, e_X7_noisyBits_53, e_X7_noisyBits_54, e_X7_noisyBits_55, e_X7_noisyBits_56, e_X7_noisyBits_59, e_X7_noisyBits_61, e_X7_noisyBits_64, e_X7_noisyBits_65, e_X7_noisyBits_66, e_X7_noisyBits_69, e_X7_noisyBits_71, e_X7_noisyBits_72, e_X7_noisyBits_73, e_X7_noisyBits_75, e_X7_noisyBits_78, e_X7_noisyBits_80, e_X7_noisyBits_81, e_X7_noisyBits_83, e_X7_noisyBits_84, e_X7_noisyBits_86, e_X7_noisyBits_87, e_X7_noisyBits_88, e_X7_noisyBits_90, e_X7_noisyBits_93, e_X7_noisyBits_96, e_X7_noisyBits_98, o_const, o_iload, o_aload, o_fload, o_dload, o_istore, o_astore, o_fstore, o_dstore, o_iinc, o_bin, o_div, o_un, o_i2l, o_i2f, o_i2d, o_f2d, o_fdiv, o_ddiv, o_lcmp, o_fcmp, o_dcmp, o_if, o_if2, o_goto, o_dup, o_dupx1, o_dup2, o_pop, o_getI, o_getR, o_putI, o_putR, o_iald, o_iast, o_bald, o_bast, o_zald, o_zast, o_aald, o_aast, o_jald, o_jast, o_dald, o_dast, o_alen, o_castA, o_new, o_newa, o_callv, o_callvN, o_calli, o_calls, o_objinit, o_iret, o_zret, o_fret, o_dret, o_aret, o_vret, o_throw, o_acopy, o_bcopy, o_clone, o_tsw, o_ldcS, o_kval, o_kcoder, o_klen, o_kald, o_tald, o_getSq, o_callk, o_callvH, gl, stl, stl2, pre2, va_rf, Value.category, catS, List.length_cons, List.length_nil, List.map_cons, List.map_nil, List.sum_cons, List.sum_nil, List.take_succ_cons, List.take_zero, List.drop_succ_cons, List.drop_zero, List.reverse_cons, List.reverse_nil, List.nil_append, List.cons_append, true_and, and_true, if_true, Nat.reduceAdd, Nat.reduceLT, Nat.reduceLeDiff]
  refine sp_noisy_lp hR (D := df) hz pq8 hi ?_ (aWm (sSet C) - i) 0 S none (by omega) hR ((Fr.rf S).mono (fun _ _ _ w => w.elim) (by decide) (by decide)) rfl dn4
  intro S' hR' hF hg hD
  obtain ⟨-, e2, e3⟩ := nst_D (A := sSet C) (x := x) (z0 := sNoi C) (i := i) df (fun _ => 0) (aWm (sSet C) - i)
  rw [e3] at hR'
  rw [e2]
  refine h S' df hR' hF hg ?_
  intro dr' hd'
  cases Option.some.inj (pq8.symm.trans hd')
  obtain ⟨u1, u2, u3⟩ := hF.1 dr dn1
  exact ⟨u1, u2.trans dn2, u3.trans dn3, hD⟩
theorem sp_convertAndKeep (hR : StateR S p B L C) {x : Nat} (hz : sNoi C ≤ 65535) (hn : (sSn C).1 + 1 ≤ 10000) (hc : gC S + 2 ≤ cCM) (hzz : gZ S + 2 * max ((sSn C).1 + 1) (2 * L) ≤ cSM)
    (h : ∀ S' L' D, StateR S' p B L' (cvK C x D) → Fr S S' (StA S p B) 2 (4 * (L' - L)) → L ≤ L' → gR S' 9 p = gR S 9 p → Q (.inl (some (.int (nI (cvC C (nB (sSet C) (nI x) (sNoi C) 0)))))) S') : WG ks (d + 5) n_X7_convertAndKeep [.ref p, .int (nI x)] S Q := by
  refine ⟨by simp [cat1, Value.category], by show (2 : Nat) ≤ 4; decide, ?_⟩
  show Run ks (WG ks (d + 4)) Q tb_X7_convertAndKeep 0 [some (.ref p), some (.int (nI x)), none, none] [] S
  have hR0 := hR
  obtain ⟨su, tb, kp, sn, dr, pq1, pq2, pq3, pq4, pq5, pq6, pq7, pq8, hSet, hSV, ⟨tn1, tn2, tn3, tn4⟩, hKept, hSeen, ⟨df, dn1, dn2, dn3, dn4⟩, hB⟩ := hR0
  simp only [e_X7_convertAndKeep_0, e_X7_convertAndKeep_1, e_X7_convertAndKeep_2, e_X7_convertAndKeep_3, e_X7_convertAndKeep_6, e_X7_convertAndKeep_7, e_X7_convertAndKeep_8, e_X7_convertAndKeep_9, e_X7_convertAndKeep_12, e_X7_convertAndKeep_13, e_X7_convertAndKeep_14, e_X7_convertAndKeep_17, e_X7_convertAndKeep_18, e_X7_convertAndKeep_19, e_X7_convertAndKeep_20, e_X7_convertAndKeep_21, e_X7_convertAndKeep_24, e_X7_convertAndKeep_27, e_X7_convertAndKeep_28, e_X7_convertAndKeep_31, e_X7_convertAndKeep_32, e_X7_convertAndKeep_35, e_X7_convertAndKeep_36, o_const, o_iload, o_aload, o_fload, o_dload, o_istore, o_astore, o_fstore, o_dstore, o_iinc, o_bin, o_div, o_un, o_i2l, o_i2f, o_i2d, o_f2d, o_fdiv, o_ddiv, o_lcmp, o_fcmp, o_dcmp, o_if, o_if2, o_goto, o_dup, o_dupx1, o_dup2, o_pop, o_getI, o_getR, o_putI, o_putR, o_iald, o_iast, o_bald, o_bast, o_zald, o_zast, o_aald, o_aast, o_jald, o_jast, o_dald, o_dast, o_alen, o_castA, o_new, o_newa, o_callv, o_callvN, o_calli, o_calls, o_objinit, o_iret, o_zret, o_fret, o_dret, o_aret, o_vret, o_throw, o_acopy, o_bcopy, o_clone, o_tsw, o_ldcS, o_kval, o_kcoder, o_klen, o_kald, o_tald, o_getSq, o_callk, o_callvH, gl, stl, stl2, pre2, va_rf, Value.category, catS, List.length_cons, List.length_nil, List.map_cons, List.map_nil, List.sum_cons, List.sum_nil, List.take_succ_cons, List.take_zero, List.drop_succ_cons, List.drop_zero, List.reverse_cons, List.reverse_nil, List.nil_append, List.cons_append, true_and, and_true, if_true, Nat.reduceAdd, Nat.reduceLT, Nat.reduceLeDiff]
  refine ⟨⟨p, _, rfl, rfl, pq1, pq2⟩, sp_noisyBits (i := 0) hR hz (Nat.zero_le _) ?_⟩
  intro S1 D hR1 hF1 hg1 hD1
  have hR10 := hR1
  obtain ⟨su1, tb1, kp1, sn1, dr1, qq1, qq2, qq3, qq4, qq5, qq6, qq7, qq8, -, -, -, hKept1, hSeen1, -, -⟩ := hR10
  have hdr := hD1 dr1 (by rw [← hg1]; exact qq8)
  simp only [behind, e_X7_convertAndKeep_0, e_X7_convertAndKeep_1, e_X7_convertAndKeep_2, e_X7_convertAndKeep_3, e_X7_convertAndKeep_6, e_X7_convertAndKeep_7, e_X7_convertAndKeep_8, e_X7_convertAndKeep_9, e_X7_convertAndKeep_12, e_X7_convertAndKeep_13, e_X7_convertAndKeep_14, e_X7_convertAndKeep_17, e_X7_convertAndKeep_18, e_X7_convertAndKeep_19, e_X7_convertAndKeep_20, e_X7_convertAndKeep_21, e_X7_convertAndKeep_24, e_X7_convertAndKeep_27, e_X7_convertAndKeep_28, e_X7_convertAndKeep_31, e_X7_convertAndKeep_32, e_X7_convertAndKeep_35, e_X7_convertAndKeep_36, o_const, o_iload, o_aload, o_fload, o_dload, o_istore, o_astore, o_fstore, o_dstore, o_iinc, o_bin, o_div, o_un, o_i2l, o_i2f, o_i2d, o_f2d, o_fdiv, o_ddiv, o_lcmp, o_fcmp, o_dcmp, o_if, o_if2, o_goto, o_dup, o_dupx1, o_dup2, o_pop, o_getI, o_getR, o_putI, o_putR, o_iald, o_iast, o_bald, o_bast, o_zald, o_zast, o_aald, o_aast, o_jald, o_jast, o_dald, o_dast, o_alen, o_castA, o_new, o_newa, o_callv, o_callvN, o_calli, o_calls, o_objinit, o_iret, o_zret, o_fret, o_dret, o_aret, o_vret, o_throw, o_acopy, o_bcopy, o_clone, o_tsw, o_ldcS, o_kval, o_kcoder, o_klen, o_kald, o_tald, o_getSq, o_callk, o_callvH, gl, stl, stl2, pre2, va_rf, Value.category, catS, List.length_cons, List.length_nil, List.map_cons, List.map_nil, List.sum_cons, List.sum_nil, List.take_succ_cons, List.take_zero, List.drop_succ_cons, List.drop_zero, List.reverse_cons, List.reverse_nil, List.nil_append, List.cons_append, true_and, and_true, if_true, Nat.reduceAdd, Nat.reduceLT, Nat.reduceLeDiff, qq1, qq2, qq6, qq7, qq8]
  refine ⟨⟨p, _, rfl, rfl, qq1, qq2⟩, sp_codeOf hR1 ?_⟩
  simp only [behind, e_X7_convertAndKeep_0, e_X7_convertAndKeep_1, e_X7_convertAndKeep_2, e_X7_convertAndKeep_3, e_X7_convertAndKeep_6, e_X7_convertAndKeep_7, e_X7_convertAndKeep_8, e_X7_convertAndKeep_9, e_X7_convertAndKeep_12, e_X7_convertAndKeep_13, e_X7_convertAndKeep_14, e_X7_convertAndKeep_17, e_X7_convertAndKeep_18, e_X7_convertAndKeep_19, e_X7_convertAndKeep_20, e_X7_convertAndKeep_21, e_X7_convertAndKeep_24, e_X7_convertAndKeep_27, e_X7_convertAndKeep_28, e_X7_convertAndKeep_31, e_X7_convertAndKeep_32, e_X7_convertAndKeep_35, e_X7_convertAndKeep_36, o_const, o_iload, o_aload, o_fload, o_dload, o_istore, o_astore, o_fstore, o_dstore, o_iinc, o_bin, o_div, o_un, o_i2l, o_i2f, o_i2d, o_f2d, o_fdiv, o_ddiv, o_lcmp, o_fcmp, o_dcmp, o_if, o_if2, o_goto, o_dup, o_dupx1, o_dup2, o_pop, o_getI, o_getR, o_putI, o_putR, o_iald, o_iast, o_bald, o_bast, o_zald, o_zast, o_aald, o_aast, o_jald, o_jast, o_dald, o_dast, o_alen, o_castA, o_new, o_newa, o_callv, o_callvN, o_calli, o_calls, o_objinit, o_iret, o_zret, o_fret, o_dret, o_aret, o_vret, o_throw, o_acopy, o_bcopy, o_clone, o_tsw, o_ldcS, o_kval, o_kcoder, o_klen, o_kald, o_tald, o_getSq, o_callk, o_callvH, gl, stl, stl2, pre2, va_rf, Value.category, catS, List.length_cons, List.length_nil, List.map_cons, List.map_nil, List.sum_cons, List.sum_nil, List.take_succ_cons, List.take_zero, List.drop_succ_cons, List.drop_zero, List.reverse_cons, List.reverse_nil, List.nil_append, List.cons_append, true_and, and_true, if_true, Nat.reduceAdd, Nat.reduceLT, Nat.reduceLeDiff, qq1, qq2, qq6, qq7, qq8]
  have hK0 := hKept1
  have hN0 := hSeen1
  obtain ⟨ki, kc, kb, ko, kk1, kk2, -⟩ := hK0
  have hBb : 100 ≤ B := hB
  refine ⟨⟨kp1, _, rfl, rfl, kk1, kk2⟩, sp_keptAdd (y := cvC C (nB (sSet C) (nI x) (sNoi C) 0)) hKept1 hdr ⟨by omega, by omega, by omega, by omega, by omega⟩ ?_⟩
  intro S2 hK2 hF2 hg2
  have hR2 : StateR S2 p B L (setKp (setNoi C (nZ (sSet C) (nI x) (sNoi C) 0)) (kAdd (sKp C) x (cvC C (nB (sSet C) (nI x) (sNoi C) 0)) (nB (sSet C) (nI x) (sNoi C) 0) (nDr (sSet C) (nI x) (sNoi C) 0 D))) :=
    hR1.kp hF2 (fun t a w => by rcases w with w | w | w | w | w; exact Or.inl w; all_goals exact Or.inr (by omega)) qq6 hK2
  have hg21 : gR S2 9 p = gR S1 9 p := (hF2.2.1 9 p qq1 (fun w => by rcases w with w | w | w | w | w <;> omega)).2.1
  have hR20 := hR2
  obtain ⟨su2, tb2, kp2, sn2, dr2, rr1, rr2, rr3, rr4, rr5, rr6, rr7, rr8, -, -, -, hKept2, hSeen2, -, -⟩ := hR20
  have hN1 := hSeen2
  obtain ⟨c6, t6, ss1, ss2, -⟩ := hN1
  simp only [behind, e_X7_convertAndKeep_0, e_X7_convertAndKeep_1, e_X7_convertAndKeep_2, e_X7_convertAndKeep_3, e_X7_convertAndKeep_6, e_X7_convertAndKeep_7, e_X7_convertAndKeep_8, e_X7_convertAndKeep_9, e_X7_convertAndKeep_12, e_X7_convertAndKeep_13, e_X7_convertAndKeep_14, e_X7_convertAndKeep_17, e_X7_convertAndKeep_18, e_X7_convertAndKeep_19, e_X7_convertAndKeep_20, e_X7_convertAndKeep_21, e_X7_convertAndKeep_24, e_X7_convertAndKeep_27, e_X7_convertAndKeep_28, e_X7_convertAndKeep_31, e_X7_convertAndKeep_32, e_X7_convertAndKeep_35, e_X7_convertAndKeep_36, o_const, o_iload, o_aload, o_fload, o_dload, o_istore, o_astore, o_fstore, o_dstore, o_iinc, o_bin, o_div, o_un, o_i2l, o_i2f, o_i2d, o_f2d, o_fdiv, o_ddiv, o_lcmp, o_fcmp, o_dcmp, o_if, o_if2, o_goto, o_dup, o_dupx1, o_dup2, o_pop, o_getI, o_getR, o_putI, o_putR, o_iald, o_iast, o_bald, o_bast, o_zald, o_zast, o_aald, o_aast, o_jald, o_jast, o_dald, o_dast, o_alen, o_castA, o_new, o_newa, o_callv, o_callvN, o_calli, o_calls, o_objinit, o_iret, o_zret, o_fret, o_dret, o_aret, o_vret, o_throw, o_acopy, o_bcopy, o_clone, o_tsw, o_ldcS, o_kval, o_kcoder, o_klen, o_kald, o_tald, o_getSq, o_callk, o_callvH, gl, stl, stl2, pre2, va_rf, Value.category, catS, List.length_cons, List.length_nil, List.map_cons, List.map_nil, List.sum_cons, List.sum_nil, List.take_succ_cons, List.take_zero, List.drop_succ_cons, List.drop_zero, List.reverse_cons, List.reverse_nil, List.nil_append, List.cons_append, true_and, and_true, if_true, Nat.reduceAdd, Nat.reduceLT, Nat.reduceLeDiff, rr1, rr2, rr6, rr7, rr8]
  have hc12 : gC S2 ≤ gC S ∧ gZ S2 ≤ gZ S := ⟨by have := hF1.2.2.1; have := hF2.2.2.1; omega, by have := hF1.2.2.2; have := hF2.2.2.2; omega⟩
  refine ⟨⟨sn2, _, rfl, rfl, ss1, ss2⟩, sp_seenAdd (x := cvC C (nB (sSet C) (nI x) (sNoi C) 0)) hSeen2 hn (by omega) (by have : (sSn (setKp (setNoi C (nZ (sSet C) (nI x) (sNoi C) 0)) (kAdd (sKp C) x (cvC C (nB (sSet C) (nI x) (sNoi C) 0)) (nB (sSet C) (nI x) (sNoi C) 0) (nDr (sSet C) (nI x) (sNoi C) 0 D)))).1 = (sSn C).1 := rfl; omega) ?_⟩
  intro S3 L3 hN3 hL3 hF3 hA3
  have hR3 := hR2.sn hF3 (fun t a w => by rcases w with w | w | w; exact Or.inl w; all_goals exact Or.inr (by omega)) rr7 hN3
  have hg32 : gR S3 9 p = gR S2 9 p := (hF3.2.1 9 p rr1 (fun w => by rcases w with w | w | w <;> omega)).2.1
  simp only [behind, e_X7_convertAndKeep_0, e_X7_convertAndKeep_1, e_X7_convertAndKeep_2, e_X7_convertAndKeep_3, e_X7_convertAndKeep_6, e_X7_convertAndKeep_7, e_X7_convertAndKeep_8, e_X7_convertAndKeep_9, e_X7_convertAndKeep_12, e_X7_convertAndKeep_13, e_X7_convertAndKeep_14, e_X7_convertAndKeep_17, e_X7_convertAndKeep_18, e_X7_convertAndKeep_19, e_X7_convertAndKeep_20, e_X7_convertAndKeep_21, e_X7_convertAndKeep_24, e_X7_convertAndKeep_27, e_X7_convertAndKeep_28, e_X7_convertAndKeep_31, e_X7_convertAndKeep_32, e_X7_convertAndKeep_35, e_X7_convertAndKeep_36, o_const, o_iload, o_aload, o_fload, o_dload, o_istore, o_astore, o_fstore, o_dstore, o_iinc, o_bin, o_div, o_un, o_i2l, o_i2f, o_i2d, o_f2d, o_fdiv, o_ddiv, o_lcmp, o_fcmp, o_dcmp, o_if, o_if2, o_goto, o_dup, o_dupx1, o_dup2, o_pop, o_getI, o_getR, o_putI, o_putR, o_iald, o_iast, o_bald, o_bast, o_zald, o_zast, o_aald, o_aast, o_jald, o_jast, o_dald, o_dast, o_alen, o_castA, o_new, o_newa, o_callv, o_callvN, o_calli, o_calls, o_objinit, o_iret, o_zret, o_fret, o_dret, o_aret, o_vret, o_throw, o_acopy, o_bcopy, o_clone, o_tsw, o_ldcS, o_kval, o_kcoder, o_klen, o_kald, o_tald, o_getSq, o_callk, o_callvH, gl, stl, stl2, pre2, va_rf, Value.category, catS, List.length_cons, List.length_nil, List.map_cons, List.map_nil, List.sum_cons, List.sum_nil, List.take_succ_cons, List.take_zero, List.drop_succ_cons, List.drop_zero, List.reverse_cons, List.reverse_nil, List.nil_append, List.cons_append, true_and, and_true, if_true, Nat.reduceAdd, Nat.reduceLT, Nat.reduceLeDiff]
  have e3 : gR S 9 p 3 = some kp1 := by rw [← hg1]; exact qq6
  have e4 : gR S 9 p 4 = some sn2 := by rw [← hg1, ← hg21]; exact rr7
  refine h S3 L3 D hR3 ((hF1.trans (hF2.trans hF3)).mono (fun t a _ w => ?_) (by omega) (by omega)) hL3 (hg32.trans (hg21.trans hg1))
  unfold StA
  rw [e3, e4]
  rcases w with w | w | w
  · omega
  · rcases w with w | w | w | w | w
    · exact Or.inr (Or.inr (Or.inl ⟨w.1, by rw [w.2]⟩))
    all_goals exact Or.inr (Or.inl (by omega))
  · rcases w with w | w | w
    · exact Or.inr (Or.inr (Or.inr ⟨w.1, by rw [w.2]⟩))
    all_goals exact Or.inr (Or.inl (by omega))
end SPS
