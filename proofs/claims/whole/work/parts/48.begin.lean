/-! A STATE: its table as told, begun, compared -/
def bgn (C : CSt) (A : ASet) : CSt := (A, aTo A, aSd A, (0, (sKp C).2.1, (sKp C).2.2), (0, (sSn C).2))
/-- a state whose setup and noise are not yet set -/
def StateW (S : M9) (p B L : Nat) (T : Nat → Nat) (K : CKp) (N : CSn) : Prop := ∃ tb kp sn dr : Nat, p ∈ gL S ∧ gK S p = 9 ∧ gR S 9 p 1 = some tb ∧ gR S 9 p 3 = some kp ∧ gR S 9 p 4 = some sn ∧ gR S 9 p 5 = some dr ∧
  ArrR S B tb 10 (fun k => nI (T k)) ∧ KpR S kp B K ∧ SnR S sn B L N ∧ (∃ f, ArrR S (B + 7) dr 10 f) ∧ 100 ≤ B
theorem StateR.w {S : M9} {p B L : Nat} {C : CSt} (h : StateR S p B L C) : StateW S p B L (sTab C) (sKp C) (sSn C) := by
  obtain ⟨su, tb, kp, sn, dr, pq1, pq2, pq3, pq4, pq5, pq6, pq7, pq8, hSet, hSV, hT, hKept, hSeen, hD, hB⟩ := h
  exact ⟨tb, kp, sn, dr, pq1, pq2, pq4, pq6, pq7, pq8, hT, hKept, hSeen, hD, hB⟩
theorem StateW.set {S : M9} {p B L s z : Nat} {T : Nat → Nat} {K : CKp} {N : CSn} {A : ASet} (h : StateW S p B L T K N) (hA : SetR S s A) (hV : SetV A) : StateR (sI (sR S 9 p 0 (some s)) 9 p 2 (nI z)) p B L (A, T, z, K, N) := by
  obtain ⟨tb, kp, sn, dr, pq1, pq2, pq4, pq6, pq7, pq8, hT, hKept, hSeen, ⟨df, hD⟩, hB⟩ := h
  have hF := ((Fr.sR S 9 p 0 (some s)).trans (Fr.sI _ 9 p 2 (nI z))).mono (W' := fun t a => t = 9 ∧ a = p) (fun t a _ w => w.elim id id) (Nat.le_refl _) (Nat.le_refl _)
  have hn : ∀ t a, ¬ t = 9 → ¬ (t = 9 ∧ a = p) := fun t a h1 w => h1 w.1
  have hr : ∀ j, ¬ j = 0 → gR (sI (sR S 9 p 0 (some s)) 9 p 2 (nI z)) 9 p j = gR S 9 p j := fun j hj => by rw [gR_sI, gR_sRk, if_neg (fun w => hj w.2.2)]
  exact ⟨s, tb, kp, sn, dr, (hF.1 p pq1).1, (hF.1 p pq1).2.1.trans pq2, by rw [gR_sI, gR_sRk, if_pos ⟨rfl, rfl, rfl⟩], by rw [hr _ (by decide)]; exact pq4, by rw [gI_sIk, if_pos ⟨rfl, rfl, rfl⟩]; rfl, by rw [hr _ (by decide)]; exact pq6, by rw [hr _ (by decide)]; exact pq7, by rw [hr _ (by decide)]; exact pq8, hA.fr hF (hn _ _ (by decide)) (fun t a h1 h2 => hn _ _ (by omega)), hV, hT.fr hF (hn _ _ (by omega)),
    KeptR.fr hKept hF (hn _ _ (by omega)) (fun a => hn _ _ (by omega)) (fun a => hn _ _ (by omega)) (fun a => hn _ _ (by omega)) (fun a => hn _ _ (by omega)), SeenR.fr hSeen hF (hn _ _ (by omega)) (fun a => hn _ _ (by omega)) (fun a => hn _ _ (by omega)), ⟨df, hD.fr hF (hn _ _ (by omega))⟩, hB⟩
theorem KeptR.sz0 {S : M9} {k ki kc kb kn sz nx : Nat} {inp cod : Nat → Nat} {bit noi : Nat → Int32} (h : KeptR S k ki kc kb kn sz nx inp cod bit noi) : KeptR (sI S 3 k 4 0) k ki kc kb kn 0 nx inp cod bit noi := by
  have hF := Fr.sI S 3 k 4 0
  obtain ⟨i, c, b9, o, kq1, kq2, kq3, kq4, kq5, kq6, kq7, kq8, kq9, kq10, m1, m2, m3, m4⟩ := h
  have kq60 := kq6
  obtain ⟨i1, i2, i3, i4, -⟩ := kq60
  have hn : ∀ t a, 17 ≤ t → ¬ (t = 3 ∧ a = k) := fun t a h1 w => by omega
  exact ⟨i, c, b9, o, (hF.1 k kq1).1, (hF.1 k kq1).2.1.trans kq2, by rw [gI_sIk, if_pos ⟨rfl, rfl, rfl⟩]; rfl, by rw [gI_sIk, if_neg (fun w => absurd w.2.2 (by decide))]; exact kq4, ⟨by decide, kq5.2⟩, kq6, by rw [gR_sI]; exact kq7, by rw [gR_sI]; exact kq8, by rw [gR_sI]; exact kq9, by rw [gR_sI]; exact kq10, m1.fr hF (hn _ _ i1), m2.fr hF (hn _ _ i2), m3.fr hF (hn _ _ i3), m4.fr hF (hn _ _ i4)⟩
theorem SeenR.sz0 {S : M9} {q kc kt n L : Nat} {cd tm : Nat → Nat} (h : SeenR S q kc kt n L cd tm) : SeenR (sI S 6 q 2 0) q kc kt 0 L cd tm := by
  have hF := Fr.sI S 6 q 2 0
  obtain ⟨c, t, sq1, sq2, sq3, sq4, sq5, sq6, sq7, sq8, ⟨sc1, sc2, sc3, sc4⟩, ⟨st1, st2, st3, st4⟩⟩ := h
  exact ⟨c, t, (hF.1 q sq1).1, (hF.1 q sq1).2.1.trans sq2, by rw [gI_sIk, if_pos ⟨rfl, rfl, rfl⟩]; rfl, Nat.zero_le _, sq5, sq6, by rw [gR_sI]; exact sq7, by rw [gR_sI]; exact sq8, ⟨(hF.1 c sc1).1, (hF.1 c sc1).2.1.trans sc2, (hF.1 c sc1).2.2.trans sc3, fun k hk => absurd hk (Nat.not_lt_zero _)⟩, ⟨(hF.1 t st1).1, (hF.1 t st1).2.1.trans st2, (hF.1 t st1).2.2.trans st3, fun k hk => absurd hk (Nat.not_lt_zero _)⟩⟩
section SPS
variable {ks : Nat → Nat} {d : Nat} {Q : QP} {S : M9} {p B L : Nat} {C : CSt} {T : Nat → Nat} {K : CKp} {N : CSn}
theorem sp_tableAsTold (hR : StateR S p B L C) (h : ∀ S', StateR S' p B L (setTab C (aTo (sSet C))) → Fr S S' (fun t _ => t = B) 0 0 → gR S' 9 p = gR S 9 p → Q (.inl none) S') : WG ks (d + 1) n_X7_tableAsTold [.ref p] S Q := by
  refine ⟨by simp [cat1, Value.category], by show (1 : Nat) ≤ 1; decide, ?_⟩
  show Run ks (WG ks d) Q tb_X7_tableAsTold 0 [some (.ref p)] [] S
  have hR0 := hR
  obtain ⟨su, tb, kp, sn, dr, pq1, pq2, pq3, pq4, pq5, pq6, pq7, pq8, hSet, hSV, ⟨tn1, tn2, tn3, tn4⟩, hKept, hSeen, ⟨df, dn1, dn2, dn3, dn4⟩, hB⟩ := hR0
  obtain ⟨o5, a5, t5, c5, u5, hp, hpk, f0, f3, f7, r1, r2, r4, r5, r6, ⟨zo1, zo2, zo3, zo4⟩, ⟨za1, za2, za3, za4⟩, ⟨zt1, zt2, zt3, zt4⟩, ⟨zc1, zc2, zc3, zc4⟩, ⟨zu1, zu2, zu3, zu4⟩⟩ := hSet
  have c0 : Int32.toNatClampNeg 0 = 0 := by decide
  simp only [e_X7_tableAsTold_0, e_X7_tableAsTold_1, e_X7_tableAsTold_4, e_X7_tableAsTold_7, e_X7_tableAsTold_8, e_X7_tableAsTold_9, e_X7_tableAsTold_12, e_X7_tableAsTold_13, e_X7_tableAsTold_15, e_X7_tableAsTold_18, o_const, o_iload, o_aload, o_fload, o_dload, o_istore, o_astore, o_fstore, o_dstore, o_iinc, o_bin, o_div, o_un, o_i2l, o_i2f, o_i2d, o_f2d, o_fdiv, o_ddiv, o_lcmp, o_fcmp, o_dcmp, o_if, o_if2, o_goto, o_dup, o_dupx1, o_dup2, o_pop, o_getI, o_getR, o_putI, o_putR, o_iald, o_iast, o_bald, o_bast, o_zald, o_zast, o_aald, o_aast, o_jald, o_jast, o_dald, o_dast, o_alen, o_castA, o_new, o_newa, o_callv, o_callvN, o_calli, o_calls, o_objinit, o_iret, o_zret, o_fret, o_dret, o_aret, o_vret, o_throw, o_acopy, o_bcopy, o_clone, o_tsw, o_ldcS, o_kval, o_kcoder, o_klen, o_kald, o_tald, o_getSq, o_callk, o_callvH, gl, stl, stl2, pre2, va_rf, Value.category, catS, List.length_cons, List.length_nil, List.map_cons, List.map_nil, List.sum_cons, List.sum_nil, List.take_succ_cons, List.take_zero, List.drop_succ_cons, List.drop_zero, List.reverse_cons, List.reverse_nil, List.nil_append, List.cons_append, true_and, and_true, if_true, Nat.reduceAdd, Nat.reduceLT, Nat.reduceLeDiff, pq1, pq2, pq3, pq4, pq5, pq6, pq7, pq8, tn1, tn2, tn3, dn1, dn2, dn3, hp, hpk, f0, f3, f7, r1, r2, r4, r5, r6, zo1, zo2, zo3, za1, za2, za3, zt1, zt2, zt3, zc1, zc2, zc3, zu1, zu2, zu3, c0, cl_10, Nat.zero_add]
  have hF := Fr.sW S B tb (va_cpy (gI S 27 t5) (gI S B tb) 0 0 10)
  refine ⟨by omega, by decide, by decide, by decide, h _ (hR.tab hF (fun t a w => w.1) pq4 ⟨(hF.1 _ tn1).1, ((hF.1 _ tn1).2.1).trans tn2, ((hF.1 _ tn1).2.2).trans tn3, fun j hj => ?_⟩) (hF.mono (fun _ _ _ w => w.1) (Nat.le_refl _) (Nat.le_refl _)) rfl⟩
  show gI _ B tb j = nI (aTo (sSet C) j)
  rw [gI_W]
  have e : va_cpy (gI S 27 t5) (gI S B tb) 0 0 10 j = gI S 27 t5 j := by simp [va_cpy, hj]
  rw [e]; exact zt4 j hj
theorem sp_begin (hR : StateW S p B L T K N) {s : Nat} {A : ASet} (hA : SetR S s A) (hV : SetV A) (h : ∀ S', StateR S' p B L (A, aTo A, aSd A, (0, K.2.1, K.2.2), (0, N.2)) → Fr S S' (StA S p B) 0 0 → gR S' 9 p 3 = gR S 9 p 3 → gR S' 9 p 4 = gR S 9 p 4 → Q (.inl none) S') : WG ks (d + 2) n_X7_begin [.ref p, .ref s] S Q := by
  refine ⟨by simp [cat1, Value.category], by show (2 : Nat) ≤ 2; decide, ?_⟩
  show Run ks (WG ks (d + 1)) Q tb_X7_begin 0 [some (.ref p), some (.ref s)] [] S
  have hRS := hR.set hA hV (z := aSd A)
  have hA0 := hA
  obtain ⟨tb, kp, sn, dr, pq1, pq2, pq4, pq6, pq7, pq8, hT, hKept, hSeen, hD, hB⟩ := hR
  obtain ⟨o5, a5, t5, c5, u5, hp, hpk, f0, f3, f7, r1, r2, r4, r5, r6, ⟨zo1, zo2, zo3, zo4⟩, ⟨za1, za2, za3, za4⟩, ⟨zt1, zt2, zt3, zt4⟩, ⟨zc1, zc2, zc3, zc4⟩, ⟨zu1, zu2, zu3, zu4⟩⟩ := hA0
  simp only [e_X7_begin_0, e_X7_begin_1, e_X7_begin_2, e_X7_begin_5, e_X7_begin_6, e_X7_begin_7, e_X7_begin_10, e_X7_begin_13, e_X7_begin_14, e_X7_begin_17, e_X7_begin_18, e_X7_begin_21, e_X7_begin_22, e_X7_begin_25, e_X7_begin_26, e_X7_begin_29, e_X7_begin_30, e_X7_begin_33, o_const, o_iload, o_aload, o_fload, o_dload, o_istore, o_astore, o_fstore, o_dstore, o_iinc, o_bin, o_div, o_un, o_i2l, o_i2f, o_i2d, o_f2d, o_fdiv, o_ddiv, o_lcmp, o_fcmp, o_dcmp, o_if, o_if2, o_goto, o_dup, o_dupx1, o_dup2, o_pop, o_getI, o_getR, o_putI, o_putR, o_iald, o_iast, o_bald, o_bast, o_zald, o_zast, o_aald, o_aast, o_jald, o_jast, o_dald, o_dast, o_alen, o_castA, o_new, o_newa, o_callv, o_callvN, o_calli, o_calls, o_objinit, o_iret, o_zret, o_fret, o_dret, o_aret, o_vret, o_throw, o_acopy, o_bcopy, o_clone, o_tsw, o_ldcS, o_kval, o_kcoder, o_klen, o_kald, o_tald, o_getSq, o_callk, o_callvH, gl, stl, stl2, pre2, va_rf, Value.category, catS, List.length_cons, List.length_nil, List.map_cons, List.map_nil, List.sum_cons, List.sum_nil, List.take_succ_cons, List.take_zero, List.drop_succ_cons, List.drop_zero, List.reverse_cons, List.reverse_nil, List.nil_append, List.cons_append, true_and, and_true, if_true, Nat.reduceAdd, Nat.reduceLT, Nat.reduceLeDiff, pq1, pq2, pq4, pq6, pq7, pq8, hp, hpk, f0, f3, f7, r1, r2, r4, r5, r6, zo1, zo2, zo3, za1, za2, za3, zt1, zt2, zt3, zc1, zc2, zc3, zu1, zu2, zu3, gL_sW, gL_sI, gL_sR, gL_sC, gL_nW, gK_sW, gK_sI, gK_sR, gK_sC, gK_nW, gN_sW, gN_sI, gN_sR, gN_sC, gN_nW, gC_sW, gC_sI, gC_sR, gC_sC, gC_nW, gZ_sW, gZ_sI, gZ_sR, gZ_sC, gZ_nW, narI, gR_sI, gR_sRk, gI_sR]
  refine ⟨⟨p, _, rfl, rfl, pq1, pq2⟩, sp_tableAsTold hRS ?_⟩
  intro S1 hR1 hF1 hg1
  have hRb := hR1
  obtain ⟨su1, tb1, kp1, sn1, dr1, qq1, qq2, qq3, qq4, qq5, qq6, qq7, qq8, -, -, -, hK1, hN1, -, -⟩ := hRb
  have hK10 := hK1
  have hN10 := hN1
  obtain ⟨ki, kc, kb, ko, kk1, kk2, -⟩ := hK10
  obtain ⟨c6, t6, ss1, ss2, -⟩ := hN10
  simp only [behind, e_X7_begin_0, e_X7_begin_1, e_X7_begin_2, e_X7_begin_5, e_X7_begin_6, e_X7_begin_7, e_X7_begin_10, e_X7_begin_13, e_X7_begin_14, e_X7_begin_17, e_X7_begin_18, e_X7_begin_21, e_X7_begin_22, e_X7_begin_25, e_X7_begin_26, e_X7_begin_29, e_X7_begin_30, e_X7_begin_33, o_const, o_iload, o_aload, o_fload, o_dload, o_istore, o_astore, o_fstore, o_dstore, o_iinc, o_bin, o_div, o_un, o_i2l, o_i2f, o_i2d, o_f2d, o_fdiv, o_ddiv, o_lcmp, o_fcmp, o_dcmp, o_if, o_if2, o_goto, o_dup, o_dupx1, o_dup2, o_pop, o_getI, o_getR, o_putI, o_putR, o_iald, o_iast, o_bald, o_bast, o_zald, o_zast, o_aald, o_aast, o_jald, o_jast, o_dald, o_dast, o_alen, o_castA, o_new, o_newa, o_callv, o_callvN, o_calli, o_calls, o_objinit, o_iret, o_zret, o_fret, o_dret, o_aret, o_vret, o_throw, o_acopy, o_bcopy, o_clone, o_tsw, o_ldcS, o_kval, o_kcoder, o_klen, o_kald, o_tald, o_getSq, o_callk, o_callvH, gl, stl, stl2, pre2, va_rf, Value.category, catS, List.length_cons, List.length_nil, List.map_cons, List.map_nil, List.sum_cons, List.sum_nil, List.take_succ_cons, List.take_zero, List.drop_succ_cons, List.drop_zero, List.reverse_cons, List.reverse_nil, List.nil_append, List.cons_append, true_and, and_true, if_true, Nat.reduceAdd, Nat.reduceLT, Nat.reduceLeDiff, qq1, qq2, qq6, qq7, kk1, kk2, ss1, ss2, gL_sW, gL_sI, gL_sR, gL_sC, gL_nW, gK_sW, gK_sI, gK_sR, gK_sC, gK_nW, gN_sW, gN_sI, gN_sR, gN_sC, gN_nW, gC_sW, gC_sI, gC_sR, gC_sC, gC_nW, gZ_sW, gZ_sI, gZ_sR, gZ_sC, gZ_nW, narI, gR_sI]
  have hFk := Fr.sI S1 3 kp1 4 0
  have hR2 := hR1.kp (K := (0, K.2.1, K.2.2)) hFk (fun t a w => Or.inl w) qq6 (KeptR.sz0 hK1)
  have hRd := hR2
  obtain ⟨su2, tb2, kp2, sn2, dr2, rr1, rr2, rr3, rr4, rr5, rr6, rr7, rr8, -, -, -, hK2, hN2, -, -⟩ := hRd
  have e7 : sn2 = sn1 := Option.some.inj (rr7.symm.trans (show gR (sI S1 3 kp1 4 0) 9 p 4 = some sn1 by rw [gR_sI]; exact qq7))
  subst e7
  have hFs := Fr.sI (sI S1 3 kp1 4 0) 6 sn2 2 0
  have hR3 := hR2.sn (N := (0, N.2)) hFs (fun t a w => Or.inl w) rr7 (SeenR.sz0 hN2)
  have g3 : gR S1 9 p 3 = gR S 9 p 3 := by rw [hg1, gR_sI, gR_sRk, if_neg (fun w => absurd w.2.2 (by decide))]
  have g4 : gR S1 9 p 4 = gR S 9 p 4 := by rw [hg1, gR_sI, gR_sRk, if_neg (fun w => absurd w.2.2 (by decide))]
  refine h _ hR3 (((Fr.sR S 9 p 0 _).trans ((Fr.sI _ 9 p 2 _).trans (hF1.trans (hFk.trans hFs)))).mono (fun t a _ w => ?_) (by decide) (by decide)) (by rw [gR_sI, gR_sI]; exact g3) (by rw [gR_sI, gR_sI]; exact g4)
  rcases w with w | w | w | w | w
  · exact Or.inl w
  · exact Or.inl w
  · exact Or.inr (Or.inl (by omega))
  · exact Or.inr (Or.inr (Or.inl ⟨w.1, by rw [← g3, qq6, w.2]⟩))
  · exact Or.inr (Or.inr (Or.inr ⟨w.1, by rw [← g4, qq7, w.2]⟩))
theorem sp_countOther_lp (hR : StateR S p B L C) {g kg N : Nat} {f : Nat → Int32} (hg : ArrR S kg g N f) (hN : aWm (sSet C) ≤ N ∧ N < 2 ^ 31 ∧ 17 ≤ kg) (h : Q (.inl (some (.int (nI (sg (otF (sTab C) f) 0 (aWm (sSet C))))))) S) : ∀ r m, m + r = aWm (sSet C) → Run ks (WG ks d) Q tb_X7_countOtherNumbers 4 [some (.ref p), some (.ref g), some (.int (nI (sg (otF (sTab C) f) 0 m))), some (.int (nI m))] [] S := by
  obtain ⟨su, tb, kp, sn, dr, pq1, pq2, pq3, pq4, pq5, pq6, pq7, pq8, hSet, hSV, ⟨tn1, tn2, tn3, tn4⟩, hKept, hSeen, ⟨df, dn1, dn2, dn3, dn4⟩, hB⟩ := hR
  obtain ⟨o5, a5, t5, c5, u5, hp, hpk, f0, f3, f7, r1, r2, r4, r5, r6, ⟨zo1, zo2, zo3, zo4⟩, ⟨za1, za2, za3, za4⟩, ⟨zt1, zt2, zt3, zt4⟩, ⟨zc1, zc2, zc3, zc4⟩, ⟨zu1, zu2, zu3, zu4⟩⟩ := hSet
  have hV := hSV.2.1.2
  obtain ⟨g1, g2, g3, g4⟩ := hg
  intro r
  induction r with
  | zero =>
    intro m hm
    rw [e_X7_countOtherNumbers_4]
    simp only [e_X7_countOtherNumbers_0, e_X7_countOtherNumbers_1, e_X7_countOtherNumbers_2, e_X7_countOtherNumbers_3, e_X7_countOtherNumbers_5, e_X7_countOtherNumbers_6, e_X7_countOtherNumbers_9, e_X7_countOtherNumbers_12, e_X7_countOtherNumbers_15, e_X7_countOtherNumbers_16, e_X7_countOtherNumbers_17, e_X7_countOtherNumbers_18, e_X7_countOtherNumbers_21, e_X7_countOtherNumbers_22, e_X7_countOtherNumbers_23, e_X7_countOtherNumbers_26, e_X7_countOtherNumbers_27, e_X7_countOtherNumbers_28, e_X7_countOtherNumbers_29, e_X7_countOtherNumbers_30, e_X7_countOtherNumbers_31, e_X7_countOtherNumbers_34, e_X7_countOtherNumbers_35, e_X7_countOtherNumbers_38, e_X7_countOtherNumbers_39, e_X7_countOtherNumbers_40, e_X7_countOtherNumbers_41, e_X7_countOtherNumbers_44, e_X7_countOtherNumbers_47, e_X7_countOtherNumbers_48, o_const, o_iload, o_aload, o_fload, o_dload, o_istore, o_astore, o_fstore, o_dstore, o_iinc, o_bin, o_div, o_un, o_i2l, o_i2f, o_i2d, o_f2d, o_fdiv, o_ddiv, o_lcmp, o_fcmp, o_dcmp, o_if, o_if2, o_goto, o_dup, o_dupx1, o_dup2, o_pop, o_getI, o_getR, o_putI, o_putR, o_iald, o_iast, o_bald, o_bast, o_zald, o_zast, o_aald, o_aast, o_jald, o_jast, o_dald, o_dast, o_alen, o_castA, o_new, o_newa, o_callv, o_callvN, o_calli, o_calls, o_objinit, o_iret, o_zret, o_fret, o_dret, o_aret, o_vret, o_throw, o_acopy, o_bcopy, o_clone, o_tsw, o_ldcS, o_kval, o_kcoder, o_klen, o_kald, o_tald, o_getSq, o_callk, o_callvH, gl, stl, stl2, pre2, va_rf, Value.category, catS, List.length_cons, List.length_nil, List.map_cons, List.map_nil, List.sum_cons, List.sum_nil, List.take_succ_cons, List.take_zero, List.drop_succ_cons, List.drop_zero, List.reverse_cons, List.reverse_nil, List.nil_append, List.cons_append, true_and, and_true, if_true, Nat.reduceAdd, Nat.reduceLT, Nat.reduceLeDiff, pq1, pq2, pq3, pq4, pq5, pq6, pq7, pq8, tn1, tn2, tn3, dn1, dn2, dn3, hp, hpk, f0, f3, f7, r1, r2, r4, r5, r6, zo1, zo2, zo3, za1, za2, za3, zt1, zt2, zt3, zc1, zc2, zc3, zu1, zu2, zu3, nI_leI (show aWm (sSet C) < 2 ^ 31 by omega) (show m < 2 ^ 31 by omega)]
    have e : m = aWm (sSet C) := by omega
    subst e
    exact ⟨fun _ => h, fun c => (c (Nat.le_refl _)).elim⟩
  | succ r ih =>
    intro m hm
    rw [e_X7_countOtherNumbers_4]
    have hih := ih (m + 1) (by omega)
    simp only [sg, otF, Nat.zero_add] at hih
    simp only [e_X7_countOtherNumbers_0, e_X7_countOtherNumbers_1, e_X7_countOtherNumbers_2, e_X7_countOtherNumbers_3, e_X7_countOtherNumbers_5, e_X7_countOtherNumbers_6, e_X7_countOtherNumbers_9, e_X7_countOtherNumbers_12, e_X7_countOtherNumbers_15, e_X7_countOtherNumbers_16, e_X7_countOtherNumbers_17, e_X7_countOtherNumbers_18, e_X7_countOtherNumbers_21, e_X7_countOtherNumbers_22, e_X7_countOtherNumbers_23, e_X7_countOtherNumbers_26, e_X7_countOtherNumbers_27, e_X7_countOtherNumbers_28, e_X7_countOtherNumbers_29, e_X7_countOtherNumbers_30, e_X7_countOtherNumbers_31, e_X7_countOtherNumbers_34, e_X7_countOtherNumbers_35, e_X7_countOtherNumbers_38, e_X7_countOtherNumbers_39, e_X7_countOtherNumbers_40, e_X7_countOtherNumbers_41, e_X7_countOtherNumbers_44, e_X7_countOtherNumbers_47, e_X7_countOtherNumbers_48, o_const, o_iload, o_aload, o_fload, o_dload, o_istore, o_astore, o_fstore, o_dstore, o_iinc, o_bin, o_div, o_un, o_i2l, o_i2f, o_i2d, o_f2d, o_fdiv, o_ddiv, o_lcmp, o_fcmp, o_dcmp, o_if, o_if2, o_goto, o_dup, o_dupx1, o_dup2, o_pop, o_getI, o_getR, o_putI, o_putR, o_iald, o_iast, o_bald, o_bast, o_zald, o_zast, o_aald, o_aast, o_jald, o_jast, o_dald, o_dast, o_alen, o_castA, o_new, o_newa, o_callv, o_callvN, o_calli, o_calls, o_objinit, o_iret, o_zret, o_fret, o_dret, o_aret, o_vret, o_throw, o_acopy, o_bcopy, o_clone, o_tsw, o_ldcS, o_kval, o_kcoder, o_klen, o_kald, o_tald, o_getSq, o_callk, o_callvH, gl, stl, stl2, pre2, va_rf, Value.category, catS, List.length_cons, List.length_nil, List.map_cons, List.map_nil, List.sum_cons, List.sum_nil, List.take_succ_cons, List.take_zero, List.drop_succ_cons, List.drop_zero, List.reverse_cons, List.reverse_nil, List.nil_append, List.cons_append, true_and, and_true, if_true, Nat.reduceAdd, Nat.reduceLT, Nat.reduceLeDiff, pq1, pq2, pq3, pq4, pq5, pq6, pq7, pq8, tn1, tn2, tn3, dn1, dn2, dn3, hp, hpk, f0, f3, f7, r1, r2, r4, r5, r6, zo1, zo2, zo3, za1, za2, za3, zt1, zt2, zt3, zc1, zc2, zc3, zu1, zu2, zu3, g1, g2, g3, nI_leI (show aWm (sSet C) < 2 ^ 31 by omega) (show m < 2 ^ 31 by omega), nI_leI hN.2.1 (show m < 2 ^ 31 by omega), nI_clamp (show m < 2 ^ 31 by omega), tn4 m (by omega), g4 m (by omega), nI_1, nI_z]
    refine ⟨fun c => absurd c (by omega), fun _ => ⟨by omega, fun c => absurd c (by omega), fun _ => ⟨by omega, vp_in_nI (by omega) (by decide), hN.2.2, vp_in_nI (by omega) hN.2.1, fun c => ?_, fun c => ?_⟩⟩⟩
    · rw [if_neg c] at hih
      exact hih
    · rw [if_pos (Classical.not_not.mp c)] at hih
      exact hih
theorem sp_countOther (hR : StateR S p B L C) {g kg N : Nat} {f : Nat → Int32} (hg : ArrR S kg g N f) (hN : aWm (sSet C) ≤ N ∧ N < 2 ^ 31 ∧ 17 ≤ kg) (h : Q (.inl (some (.int (nI (sg (otF (sTab C) f) 0 (aWm (sSet C))))))) S) : WG ks (d + 1) n_X7_countOtherNumbers [.ref p, .ref g] S Q := by
  refine ⟨by simp [cat1, Value.category], by show (2 : Nat) ≤ 4; decide, ?_⟩
  show Run ks (WG ks d) Q tb_X7_countOtherNumbers 0 [some (.ref p), some (.ref g), none, none] [] S
  simp only [e_X7_countOtherNumbers_0, e_X7_countOtherNumbers_1, e_X7_countOtherNumbers_2, e_X7_countOtherNumbers_3, e_X7_countOtherNumbers_5, e_X7_countOtherNumbers_6, e_X7_countOtherNumbers_9, e_X7_countOtherNumbers_12, e_X7_countOtherNumbers_15, e_X7_countOtherNumbers_16, e_X7_countOtherNumbers_17, e_X7_countOtherNumbers_18, e_X7_countOtherNumbers_21, e_X7_countOtherNumbers_22, e_X7_countOtherNumbers_23, e_X7_countOtherNumbers_26, e_X7_countOtherNumbers_27, e_X7_countOtherNumbers_28, e_X7_countOtherNumbers_29, e_X7_countOtherNumbers_30, e_X7_countOtherNumbers_31, e_X7_countOtherNumbers_34, e_X7_countOtherNumbers_35, e_X7_countOtherNumbers_38, e_X7_countOtherNumbers_39, e_X7_countOtherNumbers_40, e_X7_countOtherNumbers_41, e_X7_countOtherNumbers_44, e_X7_countOtherNumbers_47, e_X7_countOtherNumbers_48, o_const, o_iload, o_aload, o_fload, o_dload, o_istore, o_astore, o_fstore, o_dstore, o_iinc, o_bin, o_div, o_un, o_i2l, o_i2f, o_i2d, o_f2d, o_fdiv, o_ddiv, o_lcmp, o_fcmp, o_dcmp, o_if, o_if2, o_goto, o_dup, o_dupx1, o_dup2, o_pop, o_getI, o_getR, o_putI, o_putR, o_iald, o_iast, o_bald, o_bast, o_zald, o_zast, o_aald, o_aast, o_jald, o_jast, o_dald, o_dast, o_alen, o_castA, o_new, o_newa, o_callv, o_callvN, o_calli, o_calls, o_objinit, o_iret, o_zret, o_fret, o_dret, o_aret, o_vret, o_throw, o_acopy, o_bcopy, o_clone, o_tsw, o_ldcS, o_kval, o_kcoder, o_klen, o_kald, o_tald, o_getSq, o_callk, o_callvH, gl, stl, stl2, pre2, va_rf, Value.category, catS, List.length_cons, List.length_nil, List.map_cons, List.map_nil, List.sum_cons, List.sum_nil, List.take_succ_cons, List.take_zero, List.drop_succ_cons, List.drop_zero, List.reverse_cons, List.reverse_nil, List.nil_append, List.cons_append, true_and, and_true, if_true, Nat.reduceAdd, Nat.reduceLT, Nat.reduceLeDiff]
  exact sp_countOther_lp hR hg hN h (aWm (sSet C)) 0 (by omega)
end SPS
