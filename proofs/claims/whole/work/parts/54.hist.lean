/-! NINE STATES, the last of them the present one; and THE HISTORY -/
def upN {α : Type} (f : Nat → α) (k : Nat) (v : α) (j : Nat) : α := if j = k then v else f j
def NineR (S : M9) (sa ka na Ls : Nat → Nat) (Cs : Nat → CSt) : Prop :=
  (∀ j, j < 9 → StateR S (sa j) (100 + 8 * j) (Ls j) (Cs j) ∧ gR S 9 (sa j) 3 = some (ka j) ∧ gR S 9 (sa j) 4 = some (na j)) ∧ (∀ i j, i < 9 → j < 9 → ¬ i = j → ¬ sa i = sa j ∧ ¬ ka i = ka j ∧ ¬ na i = na j)
def NineA (t _a : Nat) : Prop := t = 3 ∨ t = 6 ∨ t = 9 ∨ 100 ≤ t
theorem StA.nine {S : M9} {p j t a : Nat} (h : StA S p (100 + 8 * j) t a) : NineA t a := by
  unfold NineA
  rcases h with w | w | w | w <;> omega
theorem NineR.fr {S S' : M9} {sa ka na Ls : Nat → Nat} {Cs : Nat → CSt} {W : Nat → Nat → Prop} {c z : Nat} (h : NineR S sa ka na Ls Cs) (hF : Fr S S' W c z) (h9 : ∀ t a, NineA t a → ¬ W t a) (h7 : ∀ a, ¬ W 7 a) (hn : ∀ t a, 25 ≤ t → t ≤ 29 → ¬ W t a) : NineR S' sa ka na Ls Cs := by
  refine ⟨fun j hj => ?_, h.2⟩
  obtain ⟨h1, h2, h3⟩ := h.1 j hj
  have n9 := h9 9 (sa j) (Or.inr (Or.inr (Or.inl rfl)))
  have hm : sa j ∈ gL S := by obtain ⟨_, _, _, _, _, q, -⟩ := h1; exact q
  have e := (hF.2.1 9 (sa j) hm n9).2.1
  exact ⟨h1.fr hF n9 (fun t a w => h9 t a (StA.nine w)) h7 hn, by rw [e]; exact h2, by rw [e]; exact h3⟩
/-- one of them is changed -/
theorem NineR.up {S S' : M9} {sa ka na Ls : Nat → Nat} {Cs : Nat → CSt} {c z j L' : Nat} {C' : CSt} (h : NineR S sa ka na Ls Cs) (hj : j < 9) (hF : Fr S S' (StA S (sa j) (100 + 8 * j)) c z) (hR : StateR S' (sa j) (100 + 8 * j) L' C') (h3 : gR S' 9 (sa j) 3 = gR S 9 (sa j) 3) (h4 : gR S' 9 (sa j) 4 = gR S 9 (sa j) 4) : NineR S' sa ka na (upN Ls j L') (upN Cs j C') := by
  refine ⟨fun i hi => ?_, h.2⟩
  obtain ⟨g1, g2, g3⟩ := h.1 j hj
  by_cases e : i = j
  · subst e
    simp only [upN, if_true]
    exact ⟨hR, h3.trans g2, h4.trans g3⟩
  · obtain ⟨f1, f2, f3⟩ := h.1 i hi
    obtain ⟨n1, n2, n3⟩ := h.2 i j hi hj e
    simp only [upN, if_neg e]
    have hm : sa i ∈ gL S := by obtain ⟨_, _, _, _, _, q, -⟩ := f1; exact q
    have n9 : ¬ StA S (sa j) (100 + 8 * j) 9 (sa i) := fun w => by rcases w with w | w | w | w <;> omega
    have e9 := (hF.2.1 9 (sa i) hm n9).2.1
    refine ⟨f1.fr hF n9 (fun t a w1 w2 => ?_) (fun a w => by rcases w with w | w | w | w <;> omega) (fun t a h1 h2 w => by rcases w with w | w | w | w <;> omega), by rw [e9]; exact f2, by rw [e9]; exact f3⟩
    rcases w1 with w | w | w | w <;> rcases w2 with u | u | u | u <;> try omega
    · exact n2 (Option.some.inj (f2.symm.trans (w.2.trans (u.2.symm.trans g2))))
    · exact n3 (Option.some.inj (f3.symm.trans (w.2.trans (u.2.symm.trans g3))))
def HiR (S : M9) (p n nx : Nat) (sa : Nat → Nat) : Prop := ∃ r : Nat, p ∈ gL S ∧ gK S p = 2 ∧ gI S 2 p 1 = nI nx ∧ gI S 2 p 2 = nI n ∧ (n ≤ 8 ∧ nx < 8) ∧ gR S 2 p 0 = some r ∧ (r ∈ gL S ∧ gK S r = 12 ∧ gN S r = 8) ∧ (∀ j, j < 8 → gR S 12 r j = some (sa j))
theorem HiR.fr {S S' : M9} {W : Nat → Nat → Prop} {c z p n nx : Nat} {sa : Nat → Nat} (h : HiR S p n nx sa) (hF : Fr S S' W c z) (h2 : ¬ W 2 p) (h12 : ∀ a, ¬ W 12 a) : HiR S' p n nx sa := by
  obtain ⟨r, k1, k2, k3, k4, k5, k6, ⟨k7, k8, k9⟩, k10⟩ := h
  obtain ⟨x1, x2, -⟩ := hF.1 p k1
  obtain ⟨y1, y2, -⟩ := hF.2.1 2 p k1 h2
  obtain ⟨u1, u2, u3⟩ := hF.1 r k7
  obtain ⟨v1, v2, -⟩ := hF.2.1 12 r k7 (h12 r)
  exact ⟨r, x1, x2.trans k2, by rw [y1]; exact k3, by rw [y1]; exact k4, k5, by rw [y2]; exact k6, ⟨u1, u2.trans k8, u3.trans k9⟩, fun j hj => by rw [v2]; exact k10 j hj⟩
theorem nxt_8 : ∀ nx, nx < 8 → (nI nx + 1) - (nI nx + 1) / 8 * 8 = nI ((nx + 1) % 8) := by decide +kernel
theorem prv_8 : ∀ nx, nx < 8 → fmI (nI nx - 1) 8 = nI ((nx + 7) % 8) := by decide +kernel
section SPS
variable {ks : Nat → Nat} {d : Nat} {Q : QP} {S : M9} {p n nx : Nat} {sa ka na Ls : Nat → Nat} {Cs : Nat → CSt}
theorem sp_remember (hN : NineR S sa ka na Ls Cs) (hH : HiR S p n nx sa) (hn : (sSn (Cs 8)).1 ≤ 10000) (hc : gC S + 2 ≤ cCM) (hz : gZ S + 2 * max (sSn (Cs 8)).1 (2 * Ls nx) ≤ cSM)
    (h : ∀ S' L', NineR S' sa ka na (upN Ls nx L') (upN Cs nx (Cs 8)) → HiR S' p (min (n + 1) 8) ((nx + 1) % 8) sa → Fr S S' (fun t a => (t = 2 ∧ a = p) ∨ NineA t a) 2 (4 * (L' - Ls nx)) → Ls nx ≤ L' → Q (.inl none) S') : WG ks (d + 6) n_X0_remember [.ref p, .ref (sa 8)] S Q := by
  refine ⟨by simp [cat1, Value.category], by show (2 : Nat) ≤ 2; decide, ?_⟩
  show Run ks (WG ks (d + 5)) Q tb_X0_remember 0 [some (.ref p), some (.ref (sa 8))] [] S
  have hH0 := hH
  obtain ⟨r, k1, k2, k3, k4, k5, k6, ⟨k7, k8, k9⟩, k10⟩ := hH0
  have hcl : (nI nx).toNatClampNeg = nx := nI_clamp (by omega)
  obtain ⟨s1, s2, s3⟩ := hN.1 nx (by omega)
  obtain ⟨u1, u2, u3⟩ := hN.1 8 (by omega)
  obtain ⟨m1, m2, m3⟩ := hN.2 8 nx (by omega) (by omega) (by omega)
  simp only [e_X0_remember_0, e_X0_remember_1, e_X0_remember_4, e_X0_remember_5, e_X0_remember_8, e_X0_remember_9, e_X0_remember_10, e_X0_remember_13, e_X0_remember_14, e_X0_remember_15, e_X0_remember_18, e_X0_remember_19, e_X0_remember_20, e_X0_remember_22, e_X0_remember_23, e_X0_remember_26, e_X0_remember_27, e_X0_remember_28, e_X0_remember_31, e_X0_remember_32, e_X0_remember_33, e_X0_remember_35, e_X0_remember_38, e_X0_remember_41, o_const, o_iload, o_aload, o_fload, o_dload, o_istore, o_astore, o_fstore, o_dstore, o_iinc, o_bin, o_div, o_un, o_i2l, o_i2f, o_i2d, o_f2d, o_fdiv, o_ddiv, o_lcmp, o_fcmp, o_dcmp, o_if, o_if2, o_goto, o_dup, o_dupx1, o_dup2, o_pop, o_getI, o_getR, o_putI, o_putR, o_iald, o_iast, o_bald, o_bast, o_zald, o_zast, o_aald, o_aast, o_jald, o_jast, o_dald, o_dast, o_alen, o_castA, o_new, o_newa, o_callv, o_callvN, o_calli, o_calls, o_objinit, o_iret, o_zret, o_fret, o_dret, o_aret, o_vret, o_throw, o_acopy, o_bcopy, o_clone, o_tsw, o_ldcS, o_kval, o_kcoder, o_klen, o_kald, o_tald, o_getSq, o_callk, o_callvH, gl, stl, stl2, pre2, va_rf, Value.category, catS, List.length_cons, List.length_nil, List.map_cons, List.map_nil, List.sum_cons, List.sum_nil, List.take_succ_cons, List.take_zero, List.drop_succ_cons, List.drop_zero, List.reverse_cons, List.reverse_nil, List.nil_append, List.cons_append, true_and, and_true, if_true, Nat.reduceAdd, Nat.reduceLT, Nat.reduceLeDiff, k1, k2, k3, k4, k6, k7, k8, k9, hcl, k10 nx (by omega)]
  have hs1 := s1
  obtain ⟨_, _, _, _, _, v1, v2, -⟩ := hs1
  refine ⟨vp_in_nI (by omega) (by decide), ⟨sa nx, _, rfl, rfl, v1, v2⟩, sp_stateCopy s1 u1 m1 (by omega) (fun x w1 w2 => m2 (Option.some.inj ((u2.symm.trans w2).trans (w1.symm.trans s2)))) (fun x w1 w2 => m3 (Option.some.inj ((u3.symm.trans w2).trans (w1.symm.trans s3)))) hn hc hz ?_⟩
  intro S1 L1 hR1 F1 hL1 e3 e4
  have hN1 := hN.up (by omega) F1 hR1 e3 e4
  have hH1 := hH.fr F1 (fun w => by rcases w with w | w | w | w <;> omega) (fun a w => by rcases w with w | w | w | w <;> omega)
  have hHc := hH1
  obtain ⟨r1, x1, x2, x3, x4, x5, x6, ⟨x7, x8, x9⟩, x10⟩ := hHc
  have hnx := nxt_8 nx k5.2
  rw [nI_1] at hnx
  simp only [behind, e_X0_remember_0, e_X0_remember_1, e_X0_remember_4, e_X0_remember_5, e_X0_remember_8, e_X0_remember_9, e_X0_remember_10, e_X0_remember_13, e_X0_remember_14, e_X0_remember_15, e_X0_remember_18, e_X0_remember_19, e_X0_remember_20, e_X0_remember_22, e_X0_remember_23, e_X0_remember_26, e_X0_remember_27, e_X0_remember_28, e_X0_remember_31, e_X0_remember_32, e_X0_remember_33, e_X0_remember_35, e_X0_remember_38, e_X0_remember_41, o_const, o_iload, o_aload, o_fload, o_dload, o_istore, o_astore, o_fstore, o_dstore, o_iinc, o_bin, o_div, o_un, o_i2l, o_i2f, o_i2d, o_f2d, o_fdiv, o_ddiv, o_lcmp, o_fcmp, o_dcmp, o_if, o_if2, o_goto, o_dup, o_dupx1, o_dup2, o_pop, o_getI, o_getR, o_putI, o_putR, o_iald, o_iast, o_bald, o_bast, o_zald, o_zast, o_aald, o_aast, o_jald, o_jast, o_dald, o_dast, o_alen, o_castA, o_new, o_newa, o_callv, o_callvN, o_calli, o_calls, o_objinit, o_iret, o_zret, o_fret, o_dret, o_aret, o_vret, o_throw, o_acopy, o_bcopy, o_clone, o_tsw, o_ldcS, o_kval, o_kcoder, o_klen, o_kald, o_tald, o_getSq, o_callk, o_callvH, gl, stl, stl2, pre2, va_rf, Value.category, catS, List.length_cons, List.length_nil, List.map_cons, List.map_nil, List.sum_cons, List.sum_nil, List.take_succ_cons, List.take_zero, List.drop_succ_cons, List.drop_zero, List.reverse_cons, List.reverse_nil, List.nil_append, List.cons_append, true_and, and_true, if_true, Nat.reduceAdd, Nat.reduceLT, Nat.reduceLeDiff, x1, x2, x3, x4, gL_sW, gL_sI, gL_sR, gL_sC, gL_nW, gK_sW, gK_sI, gK_sR, gK_sC, gK_nW, gN_sW, gN_sI, gN_sR, gN_sC, gN_nW, gC_sW, gC_sI, gC_sR, gC_sC, gC_nW, gZ_sW, gZ_sI, gZ_sR, gZ_sC, gZ_nW, narI, gI_sIk, gR_sI, hnx, nI_1, Nat.reduceEqDiff, and_false, if_false]
  refine ⟨by decide, sp_min ?_⟩
  have hmn : (if 8 < nI (n + 1) then 8 else nI (n + 1)) = nI (min (n + 1) 8) := by
    by_cases e : 8 < n + 1
    · rw [if_pos (show (8 : Int32) < nI (n + 1) from (nI_ltI (a := 8) (by decide) (by omega)).mpr e), Nat.min_eq_right (by omega)]; rfl
    · rw [if_neg (show ¬ (8 : Int32) < nI (n + 1) from fun z => e ((nI_ltI (a := 8) (by decide) (by omega)).mp z)), Nat.min_eq_left (by omega)]
  rw [hmn]
  simp only [behind, e_X0_remember_0, e_X0_remember_1, e_X0_remember_4, e_X0_remember_5, e_X0_remember_8, e_X0_remember_9, e_X0_remember_10, e_X0_remember_13, e_X0_remember_14, e_X0_remember_15, e_X0_remember_18, e_X0_remember_19, e_X0_remember_20, e_X0_remember_22, e_X0_remember_23, e_X0_remember_26, e_X0_remember_27, e_X0_remember_28, e_X0_remember_31, e_X0_remember_32, e_X0_remember_33, e_X0_remember_35, e_X0_remember_38, e_X0_remember_41, o_const, o_iload, o_aload, o_fload, o_dload, o_istore, o_astore, o_fstore, o_dstore, o_iinc, o_bin, o_div, o_un, o_i2l, o_i2f, o_i2d, o_f2d, o_fdiv, o_ddiv, o_lcmp, o_fcmp, o_dcmp, o_if, o_if2, o_goto, o_dup, o_dupx1, o_dup2, o_pop, o_getI, o_getR, o_putI, o_putR, o_iald, o_iast, o_bald, o_bast, o_zald, o_zast, o_aald, o_aast, o_jald, o_jast, o_dald, o_dast, o_alen, o_castA, o_new, o_newa, o_callv, o_callvN, o_calli, o_calls, o_objinit, o_iret, o_zret, o_fret, o_dret, o_aret, o_vret, o_throw, o_acopy, o_bcopy, o_clone, o_tsw, o_ldcS, o_kval, o_kcoder, o_klen, o_kald, o_tald, o_getSq, o_callk, o_callvH, gl, stl, stl2, pre2, va_rf, Value.category, catS, List.length_cons, List.length_nil, List.map_cons, List.map_nil, List.sum_cons, List.sum_nil, List.take_succ_cons, List.take_zero, List.drop_succ_cons, List.drop_zero, List.reverse_cons, List.reverse_nil, List.nil_append, List.cons_append, true_and, and_true, if_true, Nat.reduceAdd, Nat.reduceLT, Nat.reduceLeDiff, x1, x2, gL_sW, gL_sI, gL_sR, gL_sC, gL_nW, gK_sW, gK_sI, gK_sR, gK_sC, gK_nW, gN_sW, gN_sI, gN_sR, gN_sC, gN_nW, gC_sW, gC_sI, gC_sR, gC_sC, gC_nW, gZ_sW, gZ_sI, gZ_sR, gZ_sC, gZ_nW, narI]
  have F2 := (Fr.sI S1 2 p 1 (nI ((nx + 1) % 8))).trans (Fr.sI (sI S1 2 p 1 (nI ((nx + 1) % 8))) 2 p 2 (nI (min (n + 1) 8)))
  have hN2 := hN1.fr F2 (fun t a w1 w2 => by unfold NineA at w1; omega) (fun a w => by omega) (fun t a h1 h2 w => by omega)
  refine h _ L1 hN2 ⟨r1, (F2.1 p x1).1, (F2.1 p x1).2.1.trans x2, ?_, ?_, ⟨by omega, Nat.mod_lt _ (by decide)⟩, ?_, ⟨(F2.1 r1 x7).1, (F2.1 r1 x7).2.1.trans x8, (F2.1 r1 x7).2.2.trans x9⟩, fun j hj => ?_⟩ ((F1.trans F2).mono (fun t a _ w => ?_) (by omega) (by omega)) hL1
  · rw [gI_sIk, if_neg (fun w => absurd w.2.2 (by decide)), gI_sIk, if_pos ⟨rfl, rfl, rfl⟩]
  · rw [gI_sIk, if_pos ⟨rfl, rfl, rfl⟩]
  · rw [gR_sI, gR_sI]; exact x6
  · rw [gR_sI, gR_sI]; exact x10 j hj
  · rcases w with w | w | w
    · exact Or.inr (StA.nine w)
    · exact Or.inl w
    · exact Or.inl w
theorem sp_bringBack (hN : NineR S sa ka na Ls Cs) (hH : HiR S p n nx sa) (h0 : 0 < n) (hn : (sSn (Cs ((nx + 7) % 8))).1 ≤ 10000) (hc : gC S + 2 ≤ cCM) (hz : gZ S + 2 * max (sSn (Cs ((nx + 7) % 8))).1 (2 * Ls 8) ≤ cSM)
    (h : ∀ S' L', NineR S' sa ka na (upN Ls 8 L') (upN Cs 8 (Cs ((nx + 7) % 8))) → HiR S' p (n - 1) ((nx + 7) % 8) sa → Fr S S' (fun t a => (t = 2 ∧ a = p) ∨ NineA t a) 2 (4 * (L' - Ls 8)) → Ls 8 ≤ L' → Q (.inl none) S') : WG ks (d + 6) n_X0_bringBack [.ref p, .ref (sa 8)] S Q := by
  refine ⟨by simp [cat1, Value.category], by show (2 : Nat) ≤ 2; decide, ?_⟩
  show Run ks (WG ks (d + 5)) Q tb_X0_bringBack 0 [some (.ref p), some (.ref (sa 8))] [] S
  have hH0 := hH
  obtain ⟨r, k1, k2, k3, k4, k5, k6, ⟨k7, k8, k9⟩, k10⟩ := hH0
  have hlt : (nx + 7) % 8 < 8 := Nat.mod_lt _ (by decide)
  have hcl : (nI ((nx + 7) % 8)).toNatClampNeg = (nx + 7) % 8 := nI_clamp (by omega)
  simp only [e_X0_bringBack_0, e_X0_bringBack_1, e_X0_bringBack_4, e_X0_bringBack_7, e_X0_bringBack_8, e_X0_bringBack_9, e_X0_bringBack_12, e_X0_bringBack_13, e_X0_bringBack_14, e_X0_bringBack_16, e_X0_bringBack_19, e_X0_bringBack_22, e_X0_bringBack_23, e_X0_bringBack_24, e_X0_bringBack_27, e_X0_bringBack_28, e_X0_bringBack_29, e_X0_bringBack_32, e_X0_bringBack_33, e_X0_bringBack_34, e_X0_bringBack_37, e_X0_bringBack_38, e_X0_bringBack_41, e_X0_bringBack_42, e_X0_bringBack_45, o_const, o_iload, o_aload, o_fload, o_dload, o_istore, o_astore, o_fstore, o_dstore, o_iinc, o_bin, o_div, o_un, o_i2l, o_i2f, o_i2d, o_f2d, o_fdiv, o_ddiv, o_lcmp, o_fcmp, o_dcmp, o_if, o_if2, o_goto, o_dup, o_dupx1, o_dup2, o_pop, o_getI, o_getR, o_putI, o_putR, o_iald, o_iast, o_bald, o_bast, o_zald, o_zast, o_aald, o_aast, o_jald, o_jast, o_dald, o_dast, o_alen, o_castA, o_new, o_newa, o_callv, o_callvN, o_calli, o_calls, o_objinit, o_iret, o_zret, o_fret, o_dret, o_aret, o_vret, o_throw, o_acopy, o_bcopy, o_clone, o_tsw, o_ldcS, o_kval, o_kcoder, o_klen, o_kald, o_tald, o_getSq, o_callk, o_callvH, gl, stl, stl2, pre2, va_rf, Value.category, catS, List.length_cons, List.length_nil, List.map_cons, List.map_nil, List.sum_cons, List.sum_nil, List.take_succ_cons, List.take_zero, List.drop_succ_cons, List.drop_zero, List.reverse_cons, List.reverse_nil, List.nil_append, List.cons_append, true_and, and_true, if_true, Nat.reduceAdd, Nat.reduceLT, Nat.reduceLeDiff, k1, k2, k3, k4, k6]
  have hnp : ¬ nI n ≤ 0 := fun c => by
    have := (nI_leI (a := n) (b := 0) (by omega) (by decide)).mp (show nI n ≤ nI 0 from c)
    omega
  refine ⟨fun c => absurd c hnp, fun _ => sp_floorMod (by decide) ?_⟩
  rw [prv_8 nx k5.2]
  have F1 := (Fr.sI S 2 p 1 (nI ((nx + 7) % 8))).trans (Fr.sI (sI S 2 p 1 (nI ((nx + 7) % 8))) 2 p 2 (nI (n - 1)))
  have hN1 := hN.fr F1 (fun t a w1 w2 => by unfold NineA at w1; omega) (fun a w => by omega) (fun t a h1 h2 w => by omega)
  have hH1 : HiR (sI (sI S 2 p 1 (nI ((nx + 7) % 8))) 2 p 2 (nI (n - 1))) p (n - 1) ((nx + 7) % 8) sa := ⟨r, (F1.1 p k1).1, (F1.1 p k1).2.1.trans k2, by rw [gI_sIk, if_neg (fun w => absurd w.2.2 (by decide)), gI_sIk, if_pos ⟨rfl, rfl, rfl⟩], by rw [gI_sIk, if_pos ⟨rfl, rfl, rfl⟩], ⟨by omega, hlt⟩, by rw [gR_sI, gR_sI]; exact k6, ⟨(F1.1 r k7).1, (F1.1 r k7).2.1.trans k8, (F1.1 r k7).2.2.trans k9⟩, fun j hj => by rw [gR_sI, gR_sI]; exact k10 j hj⟩
  have en : nI n - 1 = nI (n - 1) := pk_sub (a := n) (b := 1) h0
  have g1 : gC (sI (sI S 2 p 1 (nI ((nx + 7) % 8))) 2 p 2 (nI (n - 1))) = gC S := rfl
  have g2 : gZ (sI (sI S 2 p 1 (nI ((nx + 7) % 8))) 2 p 2 (nI (n - 1))) = gZ S := rfl
  have hHc := hH1
  obtain ⟨r1, x1, x2, x3, x4, x5, x6, ⟨x7, x8, x9⟩, x10⟩ := hHc
  simp only [behind, e_X0_bringBack_0, e_X0_bringBack_1, e_X0_bringBack_4, e_X0_bringBack_7, e_X0_bringBack_8, e_X0_bringBack_9, e_X0_bringBack_12, e_X0_bringBack_13, e_X0_bringBack_14, e_X0_bringBack_16, e_X0_bringBack_19, e_X0_bringBack_22, e_X0_bringBack_23, e_X0_bringBack_24, e_X0_bringBack_27, e_X0_bringBack_28, e_X0_bringBack_29, e_X0_bringBack_32, e_X0_bringBack_33, e_X0_bringBack_34, e_X0_bringBack_37, e_X0_bringBack_38, e_X0_bringBack_41, e_X0_bringBack_42, e_X0_bringBack_45, o_const, o_iload, o_aload, o_fload, o_dload, o_istore, o_astore, o_fstore, o_dstore, o_iinc, o_bin, o_div, o_un, o_i2l, o_i2f, o_i2d, o_f2d, o_fdiv, o_ddiv, o_lcmp, o_fcmp, o_dcmp, o_if, o_if2, o_goto, o_dup, o_dupx1, o_dup2, o_pop, o_getI, o_getR, o_putI, o_putR, o_iald, o_iast, o_bald, o_bast, o_zald, o_zast, o_aald, o_aast, o_jald, o_jast, o_dald, o_dast, o_alen, o_castA, o_new, o_newa, o_callv, o_callvN, o_calli, o_calls, o_objinit, o_iret, o_zret, o_fret, o_dret, o_aret, o_vret, o_throw, o_acopy, o_bcopy, o_clone, o_tsw, o_ldcS, o_kval, o_kcoder, o_klen, o_kald, o_tald, o_getSq, o_callk, o_callvH, gl, stl, stl2, pre2, va_rf, Value.category, catS, List.length_cons, List.length_nil, List.map_cons, List.map_nil, List.sum_cons, List.sum_nil, List.take_succ_cons, List.take_zero, List.drop_succ_cons, List.drop_zero, List.reverse_cons, List.reverse_nil, List.nil_append, List.cons_append, true_and, and_true, if_true, Nat.reduceAdd, Nat.reduceLT, Nat.reduceLeDiff, k1, k2, k3, k4, k6, gL_sW, gL_sI, gL_sR, gL_sC, gL_nW, gK_sW, gK_sI, gK_sR, gK_sC, gK_nW, gN_sW, gN_sI, gN_sR, gN_sC, gN_nW, gC_sW, gC_sI, gC_sR, gC_sC, gC_nW, gZ_sW, gZ_sI, gZ_sR, gZ_sC, gZ_nW, narI, gI_sIk, gR_sI, Nat.reduceEqDiff, and_false, if_false, en, k7, k8, k9, hcl, k10 ((nx + 7) % 8) hlt, true_and, and_true]
  obtain ⟨s1, s2, s3⟩ := hN1.1 8 (by omega)
  obtain ⟨u1, u2, u3⟩ := hN1.1 ((nx + 7) % 8) (by omega)
  obtain ⟨m1, m2, m3⟩ := hN1.2 ((nx + 7) % 8) 8 (by omega) (by omega) (by omega)
  have hs1 := (hN.1 8 (by omega)).1
  obtain ⟨_, _, _, _, _, v1, v2, -⟩ := hs1
  refine ⟨vp_in_nI (by omega) (by decide), ⟨sa 8, _, rfl, rfl, v1, v2⟩, sp_stateCopy s1 u1 m1 (by omega) (fun x w1 w2 => m2 (Option.some.inj ((u2.symm.trans w2).trans (w1.symm.trans s2)))) (fun x w1 w2 => m3 (Option.some.inj ((u3.symm.trans w2).trans (w1.symm.trans s3)))) hn (by omega) (by omega) ?_⟩
  intro S2 L2 hR2 F2 hL2 e3 e4
  have hN2 := hN1.up (by omega) F2 hR2 e3 e4
  have hH2 := hH1.fr F2 (fun w => by rcases w with w | w | w | w <;> omega) (fun a w => by rcases w with w | w | w | w <;> omega)
  simp only [behind, e_X0_bringBack_0, e_X0_bringBack_1, e_X0_bringBack_4, e_X0_bringBack_7, e_X0_bringBack_8, e_X0_bringBack_9, e_X0_bringBack_12, e_X0_bringBack_13, e_X0_bringBack_14, e_X0_bringBack_16, e_X0_bringBack_19, e_X0_bringBack_22, e_X0_bringBack_23, e_X0_bringBack_24, e_X0_bringBack_27, e_X0_bringBack_28, e_X0_bringBack_29, e_X0_bringBack_32, e_X0_bringBack_33, e_X0_bringBack_34, e_X0_bringBack_37, e_X0_bringBack_38, e_X0_bringBack_41, e_X0_bringBack_42, e_X0_bringBack_45, o_const, o_iload, o_aload, o_fload, o_dload, o_istore, o_astore, o_fstore, o_dstore, o_iinc, o_bin, o_div, o_un, o_i2l, o_i2f, o_i2d, o_f2d, o_fdiv, o_ddiv, o_lcmp, o_fcmp, o_dcmp, o_if, o_if2, o_goto, o_dup, o_dupx1, o_dup2, o_pop, o_getI, o_getR, o_putI, o_putR, o_iald, o_iast, o_bald, o_bast, o_zald, o_zast, o_aald, o_aast, o_jald, o_jast, o_dald, o_dast, o_alen, o_castA, o_new, o_newa, o_callv, o_callvN, o_calli, o_calls, o_objinit, o_iret, o_zret, o_fret, o_dret, o_aret, o_vret, o_throw, o_acopy, o_bcopy, o_clone, o_tsw, o_ldcS, o_kval, o_kcoder, o_klen, o_kald, o_tald, o_getSq, o_callk, o_callvH, gl, stl, stl2, pre2, va_rf, Value.category, catS, List.length_cons, List.length_nil, List.map_cons, List.map_nil, List.sum_cons, List.sum_nil, List.take_succ_cons, List.take_zero, List.drop_succ_cons, List.drop_zero, List.reverse_cons, List.reverse_nil, List.nil_append, List.cons_append, true_and, and_true, if_true, Nat.reduceAdd, Nat.reduceLT, Nat.reduceLeDiff]
  refine h S2 L2 hN2 hH2 ((F1.trans F2).mono (fun t a _ w => ?_) (by omega) (by omega)) hL2
  rcases w with (w | w) | w
  · exact Or.inl w
  · exact Or.inl w
  · exact Or.inr (StA.nine w)
end SPS
