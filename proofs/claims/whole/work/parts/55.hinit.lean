/-! THE HISTORY, made -/
def HisI (S0 S : M9) (p r m : Nat) (A : ASet) (sa ka na : Nat → Nat) : Prop :=
  (∀ j, j < m → StateR S (sa j) (100 + 8 * j) 16 (A, aTo A, aSd A, K00, N00) ∧ gR S 9 (sa j) 3 = some (ka j) ∧ gR S 9 (sa j) 4 = some (na j)) ∧ (∀ i j, i < m → j < m → ¬ i = j → ¬ sa i = sa j ∧ ¬ ka i = ka j ∧ ¬ na i = na j) ∧
  (∀ j, j < m → ¬ sa j ∈ gL S0 ∧ ¬ ka j ∈ gL S0 ∧ ¬ na j ∈ gL S0) ∧ (∀ j, j < m → gR S 12 r j = some (sa j)) ∧
  (p ∈ gL S ∧ gK S p = 2 ∧ gI S 2 p 1 = nI 0 ∧ gI S 2 p 2 = nI 0 ∧ gR S 2 p 0 = some r ∧ r ∈ gL S ∧ gK S r = 12 ∧ gN S r = 8)
section SPS
variable {ks : Nat → Nat} {d : Nat} {Q : QP} {S : M9} {p s : Nat} {A : ASet}
theorem sp_histInit_lp (hA : SetR S s A) (hV : SetV A) (hc : gC S + 88 + 1 ≤ cCM) (hz : gZ S + 8 * 327 + 8 ≤ cSM) {r : Nat} (hr : ¬ r ∈ gL S)
    (h : ∀ S' sa ka na, HisI S S' p r 8 A sa ka na → Fr S S' (fun t a => (t = 2 ∧ a = p) ∨ (100 ≤ t ∧ t < 164)) 89 (8 * 327 + 8) → Q (.inl none) S') :
    ∀ k m S' sa ka na, m + k = 8 → HisI S S' p r m A sa ka na → Fr S S' (fun t a => (t = 2 ∧ a = p) ∨ (100 ≤ t ∧ t < 164)) (11 * m + 1) (327 * m + 8) →
      Run ks (WG ks (d + 3)) Q tb_X0_init 25 [some (.ref p), some (.ref s), some (.int (nI m))] [] S' := by
  intro k
  induction k with
  | zero =>
    intro m S' sa ka na hm hI hF
    have e : m = 8 := by omega
    subst e
    rw [e_X0_init_25]
    simp only [e_X0_init_0, e_X0_init_1, e_X0_init_4, e_X0_init_5, e_X0_init_7, e_X0_init_10, e_X0_init_13, e_X0_init_14, e_X0_init_15, e_X0_init_18, e_X0_init_19, e_X0_init_20, e_X0_init_23, e_X0_init_24, e_X0_init_26, e_X0_init_28, e_X0_init_31, e_X0_init_32, e_X0_init_35, e_X0_init_36, e_X0_init_39, e_X0_init_40, e_X0_init_41, e_X0_init_44, e_X0_init_45, e_X0_init_48, e_X0_init_51, o_const, o_iload, o_aload, o_fload, o_dload, o_istore, o_astore, o_fstore, o_dstore, o_iinc, o_bin, o_div, o_un, o_i2l, o_i2f, o_i2d, o_f2d, o_fdiv, o_ddiv, o_lcmp, o_fcmp, o_dcmp, o_if, o_if2, o_goto, o_dup, o_dupx1, o_dup2, o_pop, o_getI, o_getR, o_putI, o_putR, o_iald, o_iast, o_bald, o_bast, o_zald, o_zast, o_aald, o_aast, o_jald, o_jast, o_dald, o_dast, o_alen, o_castA, o_new, o_newa, o_callv, o_callvN, o_calli, o_calls, o_objinit, o_iret, o_zret, o_fret, o_dret, o_aret, o_vret, o_throw, o_acopy, o_bcopy, o_clone, o_tsw, o_ldcS, o_kval, o_kcoder, o_klen, o_kald, o_tald, o_getSq, o_callk, o_callvH, gl, stl, stl2, pre2, va_rf, Value.category, catS, List.length_cons, List.length_nil, List.map_cons, List.map_nil, List.sum_cons, List.sum_nil, List.take_succ_cons, List.take_zero, List.drop_succ_cons, List.drop_zero, List.reverse_cons, List.reverse_nil, List.nil_append, List.cons_append, true_and, and_true, if_true, Nat.reduceAdd, Nat.reduceLT, Nat.reduceLeDiff]
    exact ⟨fun _ => h S' sa ka na hI hF, fun c => absurd (show (8 : Int32) ≤ nI 8 by decide) c⟩
  | succ k ih =>
    intro m S' sa ka na hm hI hF
    obtain ⟨i1, i2, i3, i4, ⟨k1, k2, k3, k4, k5, k6, k7, k8⟩⟩ := hI
    have hcl : (nI m).toNatClampNeg = m := nI_clamp (by omega)
    have hA1 := hA.fr hF (fun w => by omega) (fun t a h1 h2 w => by omega)
    rw [e_X0_init_25]
    simp only [e_X0_init_0, e_X0_init_1, e_X0_init_4, e_X0_init_5, e_X0_init_7, e_X0_init_10, e_X0_init_13, e_X0_init_14, e_X0_init_15, e_X0_init_18, e_X0_init_19, e_X0_init_20, e_X0_init_23, e_X0_init_24, e_X0_init_26, e_X0_init_28, e_X0_init_31, e_X0_init_32, e_X0_init_35, e_X0_init_36, e_X0_init_40, e_X0_init_41, e_X0_init_44, e_X0_init_45, e_X0_init_48, e_X0_init_51, o_const, o_iload, o_aload, o_fload, o_dload, o_istore, o_astore, o_fstore, o_dstore, o_iinc, o_bin, o_div, o_un, o_i2l, o_i2f, o_i2d, o_f2d, o_fdiv, o_ddiv, o_lcmp, o_fcmp, o_dcmp, o_if, o_if2, o_goto, o_dup, o_dupx1, o_dup2, o_pop, o_getI, o_getR, o_putI, o_putR, o_iald, o_iast, o_bald, o_bast, o_zald, o_zast, o_aald, o_aast, o_jald, o_jast, o_dald, o_dast, o_alen, o_castA, o_new, o_newa, o_callv, o_callvN, o_calli, o_calls, o_objinit, o_iret, o_zret, o_fret, o_dret, o_aret, o_vret, o_throw, o_acopy, o_bcopy, o_clone, o_tsw, o_ldcS, o_kval, o_kcoder, o_klen, o_kald, o_tald, o_getSq, o_callk, o_callvH, gl, stl, stl2, pre2, va_rf, Value.category, catS, List.length_cons, List.length_nil, List.map_cons, List.map_nil, List.sum_cons, List.sum_nil, List.take_succ_cons, List.take_zero, List.drop_succ_cons, List.drop_zero, List.reverse_cons, List.reverse_nil, List.nil_append, List.cons_append, true_and, and_true, if_true, Nat.reduceAdd, Nat.reduceLT, Nat.reduceLeDiff, k1, k2, k5]
    refine ⟨fun c => absurd ((nI_leI (a := 8) (b := m) (by decide) (by omega)).mp c) (by omega), fun _ => ⟨by have := hF.2.2.1; omega, by have := hF.2.2.2; omega, fun q hq => ?_⟩⟩
    have F1 := Fr.nW S' 9 q 0 6 hq
    have q1 : q ∈ gL (nW S' 9 q 0 6) := List.mem_append_right _ List.mem_cons_self
    have q2 : gK (nW S' 9 q 0 6) q = 9 := by rw [gK_nW, if_pos rfl]
    have hA2 := hA1.fr F1 (fun w => w) (fun t a h1 h2 w => w)
    have F01 := hF.trans F1
    generalize nW S' 9 q 0 6 = S1 at F1 q1 q2 hA2 F01 ⊢
    rw [e_X0_init_39]
    simp only [e_X0_init_0, e_X0_init_1, e_X0_init_4, e_X0_init_5, e_X0_init_7, e_X0_init_10, e_X0_init_13, e_X0_init_14, e_X0_init_15, e_X0_init_18, e_X0_init_19, e_X0_init_20, e_X0_init_23, e_X0_init_24, e_X0_init_26, e_X0_init_28, e_X0_init_31, e_X0_init_32, e_X0_init_35, e_X0_init_36, e_X0_init_40, e_X0_init_41, e_X0_init_44, e_X0_init_45, e_X0_init_48, e_X0_init_51, o_const, o_iload, o_aload, o_fload, o_dload, o_istore, o_astore, o_fstore, o_dstore, o_iinc, o_bin, o_div, o_un, o_i2l, o_i2f, o_i2d, o_f2d, o_fdiv, o_ddiv, o_lcmp, o_fcmp, o_dcmp, o_if, o_if2, o_goto, o_dup, o_dupx1, o_dup2, o_pop, o_getI, o_getR, o_putI, o_putR, o_iald, o_iast, o_bald, o_bast, o_zald, o_zast, o_aald, o_aast, o_jald, o_jast, o_dald, o_dast, o_alen, o_castA, o_new, o_newa, o_callv, o_callvN, o_calli, o_calls, o_objinit, o_iret, o_zret, o_fret, o_dret, o_aret, o_vret, o_throw, o_acopy, o_bcopy, o_clone, o_tsw, o_ldcS, o_kval, o_kcoder, o_klen, o_kald, o_tald, o_getSq, o_callk, o_callvH, gl, stl, stl2, pre2, va_rf, Value.category, catS, List.length_cons, List.length_nil, List.map_cons, List.map_nil, List.sum_cons, List.sum_nil, List.take_succ_cons, List.take_zero, List.drop_succ_cons, List.drop_zero, List.reverse_cons, List.reverse_nil, List.nil_append, List.cons_append, true_and, and_true, if_true, Nat.reduceAdd, Nat.reduceLT, Nat.reduceLeDiff]
    refine ⟨⟨q, _, rfl, rfl⟩, sp_stateInit (B := 100 + 8 * m) q1 q2 (by omega) hA2 hV (by have := F01.2.2.1; omega) (by have := F01.2.2.2; omega) ?_⟩
    intro S2 hR2 F2 n3 n4
    have F02 := F01.trans F2
    have F12 := F1.trans F2
    obtain ⟨x1, x2, -⟩ := F12.1 p k1
    obtain ⟨y1, y2, y3⟩ := F12.1 r k6
    have hnq : ∀ a, a ∈ gL S' → ¬ a = q := fun a ha e => hq (e ▸ ha)
    obtain ⟨y4, y5, -⟩ := F12.2.1 12 r k6 (fun w => by rcases w with w | w | w <;> omega)
    obtain ⟨x4, x5, -⟩ := F12.2.1 2 p k1 (fun w => by rcases w with w | w | w <;> omega)
    have hRq := hR2
    obtain ⟨su, tb, kq, nq, dr, pq1, pq2, pq3, pq4, pq5, pq6, pq7, pq8, -⟩ := hRq
    have nkq := n3 kq pq6
    have nnq := n4 nq pq7
    simp only [behN, e_X0_init_0, e_X0_init_1, e_X0_init_4, e_X0_init_5, e_X0_init_7, e_X0_init_10, e_X0_init_13, e_X0_init_14, e_X0_init_15, e_X0_init_18, e_X0_init_19, e_X0_init_20, e_X0_init_23, e_X0_init_24, e_X0_init_26, e_X0_init_28, e_X0_init_31, e_X0_init_32, e_X0_init_35, e_X0_init_36, e_X0_init_39, e_X0_init_40, e_X0_init_41, e_X0_init_44, e_X0_init_45, e_X0_init_48, e_X0_init_51, o_const, o_iload, o_aload, o_fload, o_dload, o_istore, o_astore, o_fstore, o_dstore, o_iinc, o_bin, o_div, o_un, o_i2l, o_i2f, o_i2d, o_f2d, o_fdiv, o_ddiv, o_lcmp, o_fcmp, o_dcmp, o_if, o_if2, o_goto, o_dup, o_dupx1, o_dup2, o_pop, o_getI, o_getR, o_putI, o_putR, o_iald, o_iast, o_bald, o_bast, o_zald, o_zast, o_aald, o_aast, o_jald, o_jast, o_dald, o_dast, o_alen, o_castA, o_new, o_newa, o_callv, o_callvN, o_calli, o_calls, o_objinit, o_iret, o_zret, o_fret, o_dret, o_aret, o_vret, o_throw, o_acopy, o_bcopy, o_clone, o_tsw, o_ldcS, o_kval, o_kcoder, o_klen, o_kald, o_tald, o_getSq, o_callk, o_callvH, gl, stl, stl2, pre2, va_rf, Value.category, catS, List.length_cons, List.length_nil, List.map_cons, List.map_nil, List.sum_cons, List.sum_nil, List.take_succ_cons, List.take_zero, List.drop_succ_cons, List.drop_zero, List.reverse_cons, List.reverse_nil, List.nil_append, List.cons_append, true_and, and_true, if_true, Nat.reduceAdd, Nat.reduceLT, Nat.reduceLeDiff, y1, y2.trans k7, y3.trans k8, pq1, pq2, hcl, nI_1]
    refine ⟨vp_in_nI (by omega) (by decide), ?_⟩
    have F3 := Fr.sR S2 12 r m (some q)
    have F13 := (F12.trans F3).mono (W' := fun t a => (t = 9 ∧ a = q) ∨ (100 + 8 * m ≤ t ∧ t < 100 + 8 * m + 8) ∨ (t = 12 ∧ a = r)) (fun t a _ w => by
      rcases w with (w | w | w) | w
      · exact w.elim
      · exact Or.inl w
      · exact Or.inr (Or.inl w)
      · exact Or.inr (Or.inr w)) (Nat.le_refl _) (Nat.le_refl _)
    have hin : ∀ j, j < m → sa j ∈ gL S' ∧ ka j ∈ gL S' ∧ na j ∈ gL S' := fun j hj => by
      obtain ⟨w1, w2, w3⟩ := i1 j hj
      obtain ⟨_, _, kj, nj, _, v1, v2, v3, v4, v5, v6, v7, v8, -, -, -, w4, w5, -⟩ := w1
      obtain ⟨_, _, _, _, w6, -⟩ := w4
      obtain ⟨_, _, w7, -⟩ := w5
      cases Option.some.inj (w2.symm.trans v6)
      cases Option.some.inj (w3.symm.trans v7)
      exact ⟨v1, w6, w7⟩
    have hq0 : ¬ q ∈ gL S := fun w => hq (hF.1 q w).1
    have hk0 : ¬ kq ∈ gL S' := fun w => nkq (F1.1 _ w).1
    have hn0 : ¬ nq ∈ gL S' := fun w => nnq (F1.1 _ w).1
    refine ih (m + 1) _ (upN sa m q) (upN ka m kq) (upN na m nq) (by omega) ⟨fun j hj => ?_, fun i j hi hj hne => ?_, fun j hj => ?_, fun j hj => ?_, ?_⟩ ((hF.trans F13).mono (fun t a ha w => ?_) (by omega) (by omega))
    · by_cases e : j = m
      · subst e
        simp only [upN, if_true]
        exact ⟨hR2.fr F3 (fun w => absurd w.1 (by decide)) (fun t a w1 w2 => by rcases w1 with w | w | w | w <;> omega) (fun a w => absurd w.1 (by decide)) (fun t a h1 h2 w => by omega), pq6, pq7⟩
      · obtain ⟨w1, w2, w3⟩ := i1 j (by omega)
        obtain ⟨v1, v2, v3⟩ := hin j (by omega)
        simp only [upN, if_neg e]
        have n9 : ¬ ((9 = 9 ∧ sa j = q) ∨ (100 + 8 * m ≤ 9 ∧ 9 < 100 + 8 * m + 8) ∨ (9 = 12 ∧ sa j = r)) := fun w => by
          rcases w with w | w | w
          · exact hnq _ v1 w.2
          · omega
          · omega
        have e9 := (F13.2.1 9 (sa j) v1 n9).2.1
        refine ⟨w1.fr F13 n9 (fun t a u1 u2 => ?_) (fun a w => by omega) (fun t a h1 h2 w => by omega), by rw [e9]; exact w2, by rw [e9]; exact w3⟩
        rcases u1 with u | u | u | u <;> rcases u2 with w | w | w <;> try omega
    · by_cases e1 : i = m
      · have e2 : ¬ j = m := fun e => hne (e1.trans e.symm)
        obtain ⟨v1, v2, v3⟩ := hin j (by omega)
        simp only [upN, if_pos e1, if_neg e2]
        exact ⟨fun w => hq (w ▸ v1), fun w => hk0 (w ▸ v2), fun w => hn0 (w ▸ v3)⟩
      · by_cases e2 : j = m
        · obtain ⟨v1, v2, v3⟩ := hin i (by omega)
          simp only [upN, if_pos e2, if_neg e1]
          exact ⟨fun w => hq (w ▸ v1), fun w => hk0 (w ▸ v2), fun w => hn0 (w ▸ v3)⟩
        · simp only [upN, if_neg e1, if_neg e2]
          exact i2 i j (by omega) (by omega) hne
    · by_cases e : j = m
      · simp only [upN, if_pos e]
        exact ⟨hq0, fun w => hk0 (hF.1 _ w).1, fun w => hn0 (hF.1 _ w).1⟩
      · simp only [upN, if_neg e]
        exact i3 j (by omega)
    · rw [gR_sRk]
      by_cases e : j = m
      · rw [if_pos ⟨rfl, rfl, e⟩]; simp only [upN, if_pos e]
      · rw [if_neg (fun w => e w.2.2), y5]
        simp only [upN, if_neg e]
        exact i4 j (by omega)
    · exact ⟨(F13.1 p k1).1, (F13.1 p k1).2.1.trans k2, by rw [gI_sR, x4]; exact k3, by rw [gI_sR, x4]; exact k4, by rw [gR_sRk, if_neg (fun w => absurd w.1 (by decide)), x5]; exact k5, (F13.1 r k6).1, (F13.1 r k6).2.1.trans k7, (F13.1 r k6).2.2.trans k8⟩
    · rcases w with w | w | w | w
      · exact w
      · exact absurd (w.2 ▸ ha) hq0
      · exact Or.inr (by omega)
      · exact absurd (w.2 ▸ ha) hr
theorem sp_histInit (hp : p ∈ gL S) (hk : gK S p = 2) (hA : SetR S s A) (hV : SetV A) (hc : gC S + 89 ≤ cCM) (hz : gZ S + 8 * 327 + 8 ≤ cSM)
    (h : ∀ S' sa ka na r, HisI S S' p r 8 A sa ka na → Fr S S' (fun t a => (t = 2 ∧ a = p) ∨ (100 ≤ t ∧ t < 164)) 89 (8 * 327 + 8) → Q (.inl none) S') : WG ks (d + 4) n_X0_init [.ref p, .ref s] S Q := by
  refine ⟨by simp [cat1, Value.category], by show (2 : Nat) ≤ 3; decide, ?_⟩
  show Run ks (WG ks (d + 3)) Q tb_X0_init 0 [some (.ref p), some (.ref s), none] [] S
  simp only [e_X0_init_0, e_X0_init_1, e_X0_init_4, e_X0_init_5, e_X0_init_7, e_X0_init_13, e_X0_init_14, e_X0_init_15, e_X0_init_18, e_X0_init_19, e_X0_init_20, e_X0_init_23, e_X0_init_24, e_X0_init_26, e_X0_init_28, e_X0_init_31, e_X0_init_32, e_X0_init_35, e_X0_init_36, e_X0_init_39, e_X0_init_40, e_X0_init_41, e_X0_init_44, e_X0_init_45, e_X0_init_48, e_X0_init_51, o_const, o_iload, o_aload, o_fload, o_dload, o_istore, o_astore, o_fstore, o_dstore, o_iinc, o_bin, o_div, o_un, o_i2l, o_i2f, o_i2d, o_f2d, o_fdiv, o_ddiv, o_lcmp, o_fcmp, o_dcmp, o_if, o_if2, o_goto, o_dup, o_dupx1, o_dup2, o_pop, o_getI, o_getR, o_putI, o_putR, o_iald, o_iast, o_bald, o_bast, o_zald, o_zast, o_aald, o_aast, o_jald, o_jast, o_dald, o_dast, o_alen, o_castA, o_new, o_newa, o_callv, o_callvN, o_calli, o_calls, o_objinit, o_iret, o_zret, o_fret, o_dret, o_aret, o_vret, o_throw, o_acopy, o_bcopy, o_clone, o_tsw, o_ldcS, o_kval, o_kcoder, o_klen, o_kald, o_tald, o_getSq, o_callk, o_callvH, gl, stl, stl2, pre2, va_rf, Value.category, catS, List.length_cons, List.length_nil, List.map_cons, List.map_nil, List.sum_cons, List.sum_nil, List.take_succ_cons, List.take_zero, List.drop_succ_cons, List.drop_zero, List.reverse_cons, List.reverse_nil, List.nil_append, List.cons_append, true_and, and_true, if_true, Nat.reduceAdd, Nat.reduceLT, Nat.reduceLeDiff, hp, hk, cl_8]
  refine ⟨by decide, by omega, by omega, 12, rfl, fun r hr => ?_⟩
  have F1 := Fr.nW S 12 r 8 8 hr
  obtain ⟨q1, q2, -⟩ := F1.1 p hp
  have r1 : r ∈ gL (nW S 12 r 8 8) := List.mem_append_right _ List.mem_cons_self
  have r2 : gK (nW S 12 r 8 8) r = 12 := by rw [gK_nW, if_pos rfl]
  have r3 : gN (nW S 12 r 8 8) r = 8 := by rw [gN_nW, if_pos rfl]
  generalize nW S 12 r 8 8 = S1 at F1 q1 q2 r1 r2 r3 ⊢
  rw [e_X0_init_10]
  simp only [e_X0_init_0, e_X0_init_1, e_X0_init_4, e_X0_init_5, e_X0_init_7, e_X0_init_10, e_X0_init_13, e_X0_init_14, e_X0_init_15, e_X0_init_18, e_X0_init_19, e_X0_init_20, e_X0_init_23, e_X0_init_24, e_X0_init_26, e_X0_init_28, e_X0_init_31, e_X0_init_32, e_X0_init_35, e_X0_init_36, e_X0_init_39, e_X0_init_40, e_X0_init_41, e_X0_init_44, e_X0_init_45, e_X0_init_48, e_X0_init_51, o_const, o_iload, o_aload, o_fload, o_dload, o_istore, o_astore, o_fstore, o_dstore, o_iinc, o_bin, o_div, o_un, o_i2l, o_i2f, o_i2d, o_f2d, o_fdiv, o_ddiv, o_lcmp, o_fcmp, o_dcmp, o_if, o_if2, o_goto, o_dup, o_dupx1, o_dup2, o_pop, o_getI, o_getR, o_putI, o_putR, o_iald, o_iast, o_bald, o_bast, o_zald, o_zast, o_aald, o_aast, o_jald, o_jast, o_dald, o_dast, o_alen, o_castA, o_new, o_newa, o_callv, o_callvN, o_calli, o_calls, o_objinit, o_iret, o_zret, o_fret, o_dret, o_aret, o_vret, o_throw, o_acopy, o_bcopy, o_clone, o_tsw, o_ldcS, o_kval, o_kcoder, o_klen, o_kald, o_tald, o_getSq, o_callk, o_callvH, gl, stl, stl2, pre2, va_rf, Value.category, catS, List.length_cons, List.length_nil, List.map_cons, List.map_nil, List.sum_cons, List.sum_nil, List.take_succ_cons, List.take_zero, List.drop_succ_cons, List.drop_zero, List.reverse_cons, List.reverse_nil, List.nil_append, List.cons_append, true_and, and_true, if_true, Nat.reduceAdd, Nat.reduceLT, Nat.reduceLeDiff, q1, q2.trans hk, gL_sW, gL_sI, gL_sR, gL_sC, gL_nW, gK_sW, gK_sI, gK_sR, gK_sC, gK_nW, gN_sW, gN_sI, gN_sR, gN_sC, gN_nW, gC_sW, gC_sI, gC_sR, gC_sC, gC_nW, gZ_sW, gZ_sI, gZ_sR, gZ_sC, gZ_nW, narI]
  have F2 := (Fr.sR S1 2 p 0 (some r)).trans ((Fr.sI (sR S1 2 p 0 (some r)) 2 p 1 0).trans (Fr.sI (sI (sR S1 2 p 0 (some r)) 2 p 1 0) 2 p 2 0))
  have F12 := (F1.trans F2).mono (W' := fun t a => (t = 2 ∧ a = p) ∨ (100 ≤ t ∧ t < 164)) (fun t a _ w => by
    rcases w with w | w | w | w
    · exact w.elim
    all_goals exact Or.inl w) (Nat.le_refl _) (Nat.le_refl _)
  refine sp_histInit_lp hA hV (by omega) (by omega) hr (fun S' sa ka na => h S' sa ka na r) 8 0 _ (fun _ => 0) (fun _ => 0) (fun _ => 0) (by decide) ⟨fun j hj => absurd hj (by omega), fun i j hi => absurd hi (by omega), fun j hj => absurd hj (by omega), fun j hj => absurd hj (by omega), ?_⟩ (F12.mono (fun _ _ _ w => w) (by decide) (by decide))
  exact ⟨(F2.1 p q1).1, (F2.1 p q1).2.1.trans (q2.trans hk), by rw [gI_sIk, if_neg (fun w => absurd w.2.2 (by decide)), gI_sIk, if_pos ⟨rfl, rfl, rfl⟩]; rfl, by rw [gI_sIk, if_pos ⟨rfl, rfl, rfl⟩]; rfl, by rw [gR_sI, gR_sI, gR_sRk, if_pos ⟨rfl, rfl, rfl⟩], (F2.1 r r1).1, (F2.1 r r1).2.1.trans r2, (F2.1 r r1).2.2.trans r3⟩
end SPS
