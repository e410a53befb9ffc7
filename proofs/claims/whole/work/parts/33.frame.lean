/-! FRAMES: what a call may write of the old cells (W: kind and address), and what it takes of the room; a setup's beginning -/
def Fr (S S' : M9) (W : Nat → Nat → Prop) (c z : Nat) : Prop :=
  (∀ a, a ∈ gL S → a ∈ gL S' ∧ gK S' a = gK S a ∧ gN S' a = gN S a) ∧ (∀ t a, a ∈ gL S → ¬ W t a → gI S' t a = gI S t a ∧ gR S' t a = gR S t a ∧ (t = 13 → gJ S' a = gJ S a) ∧ (t = 14 → gD S' a = gD S a)) ∧ gC S' ≤ gC S + c ∧ gZ S' ≤ gZ S + z
theorem Fr.rf (S : M9) : Fr S S (fun _ _ => False) 0 0 := ⟨fun _ h => ⟨h, rfl, rfl⟩, fun _ _ _ _ => ⟨rfl, rfl, fun _ => rfl, fun _ => rfl⟩, Nat.le_refl _, Nat.le_refl _⟩
theorem Fr.mono {S S' : M9} {W W' : Nat → Nat → Prop} {c c' z z' : Nat} (h : Fr S S' W c z) (hW : ∀ t a, a ∈ gL S → W t a → W' t a) (hc : c ≤ c') (hz : z ≤ z') : Fr S S' W' c' z' := ⟨h.1, fun t a ha hn => h.2.1 t a ha fun q => hn (hW t a ha q), Nat.le_trans h.2.2.1 (by omega), Nat.le_trans h.2.2.2 (by omega)⟩
theorem Fr.trans {S S1 S2 : M9} {W1 W2 : Nat → Nat → Prop} {c1 c2 z1 z2 : Nat} (h1 : Fr S S1 W1 c1 z1) (h2 : Fr S1 S2 W2 c2 z2) : Fr S S2 (fun t a => W1 t a ∨ W2 t a) (c1 + c2) (z1 + z2) := by
  obtain ⟨a1, b1, c1, d1⟩ := h1
  obtain ⟨a2, b2, c2, d2⟩ := h2
  refine ⟨fun a ha => ?_, fun t a ha hn => ?_, by omega, by omega⟩
  · obtain ⟨x1, x2, x3⟩ := a1 a ha
    obtain ⟨y1, y2, y3⟩ := a2 a x1
    exact ⟨y1, y2.trans x2, y3.trans x3⟩
  · obtain ⟨x1, x2, x3, x4⟩ := b1 t a ha fun q => hn (Or.inl q)
    obtain ⟨y1, y2, y3, y4⟩ := b2 t a (a1 a ha).1 fun q => hn (Or.inr q)
    exact ⟨y1.trans x1, y2.trans x2, fun e => (y3 e).trans (x3 e), fun e => (y4 e).trans (x4 e)⟩
theorem Fr.sW (S : M9) (t a : Nat) (f : Nat → Int32) : Fr S (sW S t a f) (fun t' a' => t' = t ∧ a' = a) 0 0 := ⟨fun _ h => ⟨h, rfl, rfl⟩, fun t' a' _ hn => ⟨by rw [gI_sW, if_neg hn], rfl, fun _ => rfl, fun _ => rfl⟩, Nat.le_refl _, Nat.le_refl _⟩
theorem Fr.sI (S : M9) (t a k : Nat) (v : Int32) : Fr S (sI S t a k v) (fun t' a' => t' = t ∧ a' = a) 0 0 := by rw [sI_W]; exact Fr.sW S t a _
theorem Fr.sR (S : M9) (t a k : Nat) (v : Option Nat) : Fr S (sR S t a k v) (fun t' a' => t' = t ∧ a' = a) 0 0 := ⟨fun _ h => ⟨h, rfl, rfl⟩, fun t' a' _ hn => ⟨rfl, by rw [gR_sR, if_neg hn], fun _ => rfl, fun _ => rfl⟩, Nat.le_refl _, Nat.le_refl _⟩
theorem Fr.sJ (S : M9) (a k : Nat) (v : Int64) : Fr S (sJ S a k v) (fun t' a' => t' = 13 ∧ a' = a) 0 0 := ⟨fun _ h => ⟨h, rfl, rfl⟩, fun t' a' _ hn => ⟨rfl, rfl, fun e => by rw [gJ_sJ, if_neg (fun q => hn ⟨e, q⟩)], fun _ => rfl⟩, Nat.le_refl _, Nat.le_refl _⟩
theorem Fr.sD (S : M9) (a k : Nat) (v : UInt64) : Fr S (sD S a k v) (fun t' a' => t' = 14 ∧ a' = a) 0 0 := ⟨fun _ h => ⟨h, rfl, rfl⟩, fun t' a' _ hn => ⟨rfl, rfl, fun _ => rfl, fun e => by rw [gD_sD, if_neg (fun q => hn ⟨e, q⟩)]⟩, Nat.le_refl _, Nat.le_refl _⟩
theorem Fr.sC (S : M9) (c z : Nat) : Fr S (sC S c z) (fun _ _ => False) c z := ⟨fun _ h => ⟨h, rfl, rfl⟩, fun _ _ _ _ => ⟨rfl, rfl, fun _ => rfl, fun _ => rfl⟩, Nat.le_refl _, Nat.le_refl _⟩
theorem Fr.nW (S : M9) (t a n z : Nat) (h : ¬ a ∈ gL S) : Fr S (nW S t a n z) (fun _ _ => False) 1 z := by
  have hne : ∀ a', a' ∈ gL S → ¬ a' = a := fun a' h' e => h (e ▸ h')
  refine ⟨fun a' h' => ⟨List.mem_append_left _ h', by rw [gK_nW, if_neg (hne a' h')], by rw [gN_nW, if_neg (hne a' h')]⟩, fun t' a' h' _ => ⟨by rw [gI_nW, if_neg (fun q => hne a' h' q.2)], by rw [gR_nW, if_neg (fun q => hne a' h' q.2)], fun _ => by rw [gJ_nW, if_neg (hne a' h')], fun _ => by rw [gD_nW, if_neg (hne a' h')]⟩, Nat.le_refl _, Nat.le_refl _⟩
theorem ArrR.fr {S S' : M9} {W : Nat → Nat → Prop} {c z t a n : Nat} {f : Nat → Int32} (h : ArrR S t a n f) (hF : Fr S S' W c z) (hn : ¬ W t a) : ArrR S' t a n f := by
  obtain ⟨h1, h2, h3, h4⟩ := h
  obtain ⟨x1, x2, x3⟩ := hF.1 a h1
  exact ⟨x1, x2.trans h2, x3.trans h3, fun k hk => by rw [(hF.2.1 t a h1 hn).1]; exact h4 k hk⟩
/-- a setup stays where nothing of it is written -/
theorem SetR.fr {S S' : M9} {W : Nat → Nat → Prop} {c z p : Nat} {A : ASet} (h : SetR S p A) (hF : Fr S S' W c z) (h7 : ¬ W 7 p) (hn : ∀ t a, 25 ≤ t → t ≤ 29 → ¬ W t a) : SetR S' p A := by
  obtain ⟨o5, a5, t5, c5, u5, hp, hpk, f0, f3, f7, r1, r2, r4, r5, r6, ⟨zo1, zo2, zo3, zo4⟩, ⟨za1, za2, za3, za4⟩, ⟨zt1, zt2, zt3, zt4⟩, ⟨zc1, zc2, zc3, zc4⟩, ⟨zu1, zu2, zu3, zu4⟩⟩ := h
  obtain ⟨x1, x2, -⟩ := hF.1 p hp
  obtain ⟨y1, y2, -⟩ := hF.2.1 7 p hp h7
  have z1 : ArrR S 25 o5 3 (aOf A) := ⟨zo1, zo2, zo3, zo4⟩
  have z2 : ArrR S 26 a5 3 (fun k => nI (aAm A k)) := ⟨za1, za2, za3, za4⟩
  have z3 : ArrR S 27 t5 10 (fun k => nI (aTo A k)) := ⟨zt1, zt2, zt3, zt4⟩
  have z4 : ArrR S 28 c5 10 (fun k => nI (aAc A k)) := ⟨zc1, zc2, zc3, zc4⟩
  have z5 : ArrR S 29 u5 10 (fun k => nI (aUs A k)) := ⟨zu1, zu2, zu3, zu4⟩
  refine ⟨o5, a5, t5, c5, u5, x1, x2.trans hpk, ?_, ?_, ?_, ?_, ?_, ?_, ?_, ?_, z1.fr hF (hn _ _ (by decide) (by decide)), z2.fr hF (hn _ _ (by decide) (by decide)), z3.fr hF (hn _ _ (by decide) (by decide)), z4.fr hF (hn _ _ (by decide) (by decide)), z5.fr hF (hn _ _ (by decide) (by decide))⟩
  · rw [y1]; exact f0
  · rw [y1]; exact f3
  · rw [y1]; exact f7
  · rw [y2]; exact r1
  · rw [y2]; exact r2
  · rw [y2]; exact r4
  · rw [y2]; exact r5
  · rw [y2]; exact r6
/-- the cells of a setup -/
def SetA (S : M9) (p : Nat) (t a : Nat) : Prop := (t = 7 ∧ a = p) ∨ (t = 25 ∧ gR S 7 p 1 = some a) ∨ (t = 26 ∧ gR S 7 p 2 = some a) ∨ (t = 27 ∧ gR S 7 p 4 = some a) ∨ (t = 28 ∧ gR S 7 p 5 = some a) ∨ (t = 29 ∧ gR S 7 p 6 = some a)
def A0s : ASet := (0, fun _ => 0, fun _ => 0, 0, fun _ => 0, fun _ => 0, fun _ => 0, 0)
theorem cl_3 : Int32.toNatClampNeg 3 = 3 := by decide
theorem cl_10 : Int32.toNatClampNeg 10 = 10 := by decide
theorem cl_16 : Int32.toNatClampNeg 16 = 16 := by decide
theorem cl_20 : Int32.toNatClampNeg 20 = 20 := by decide
theorem cl_200 : Int32.toNatClampNeg 200 = 200 := by decide
theorem cl_8 : Int32.toNatClampNeg 8 = 8 := by decide
theorem narI (v : Int32) : narrow .int (.int v) = .int v ∧ fits .int (.int v) = true := ⟨rfl, rfl⟩
section SPS
variable {ks : Nat → Nat} {d : Nat} {Q : QP} {S : M9} {p : Nat} {A : ASet}
theorem sp_setupInit (hp : p ∈ gL S) (hk : gK S p = 7) (hc : gC S + 5 ≤ cCM) (hz : gZ S + 36 ≤ cSM) (h : ∀ S', SetR S' p A0s → Fr S S' (fun t a => t = 7 ∧ a = p) 5 36 → (∀ t a, SetA S' p t a → a ∈ gL S → t = 7 ∧ a = p) → Q (.inl none) S') : WG ks (d + 1) n_X5_init [.ref p] S Q := by
  refine ⟨by simp [cat1, Value.category], by show (1 : Nat) ≤ 1; decide, ?_⟩
  show Run ks (WG ks d) Q tb_X5_init 0 [some (.ref p)] [] S
  simp only [e_X5_init_0, e_X5_init_1, e_X5_init_4, e_X5_init_5, e_X5_init_6, e_X5_init_9, e_X5_init_10, e_X5_init_11, e_X5_init_13, e_X5_init_16, e_X5_init_17, e_X5_init_18, e_X5_init_20, e_X5_init_23, e_X5_init_24, e_X5_init_25, e_X5_init_28, e_X5_init_29, e_X5_init_31, e_X5_init_33, e_X5_init_36, e_X5_init_37, e_X5_init_39, e_X5_init_41, e_X5_init_44, e_X5_init_45, e_X5_init_47, e_X5_init_49, e_X5_init_52, e_X5_init_53, e_X5_init_54, e_X5_init_57, o_const, o_iload, o_aload, o_fload, o_dload, o_istore, o_astore, o_fstore, o_dstore, o_iinc, o_bin, o_div, o_un, o_i2l, o_i2f, o_i2d, o_f2d, o_fdiv, o_ddiv, o_lcmp, o_fcmp, o_dcmp, o_if, o_if2, o_goto, o_dup, o_dupx1, o_dup2, o_pop, o_getI, o_getR, o_putI, o_putR, o_iald, o_iast, o_bald, o_bast, o_zald, o_zast, o_aald, o_aast, o_jald, o_jast, o_dald, o_dast, o_alen, o_castA, o_new, o_newa, o_callv, o_callvN, o_calli, o_calls, o_objinit, o_iret, o_zret, o_fret, o_dret, o_aret, o_vret, o_throw, o_acopy, o_bcopy, o_clone, o_tsw, o_ldcS, o_kval, o_kcoder, o_klen, o_kald, o_tald, o_getSq, o_callk, o_callvH, gl, stl, stl2, pre2, va_rf, Value.category, catS, List.length_cons, List.length_nil, List.map_cons, List.map_nil, List.sum_cons, List.sum_nil, List.take_succ_cons, List.take_zero, List.drop_succ_cons, List.drop_zero, List.reverse_cons, List.reverse_nil, List.nil_append, List.cons_append, true_and, and_true, Nat.reduceAdd, Nat.reduceLT, Nat.reduceLeDiff, hp, hk, gL_sW, gL_sI, gL_sR, gL_sC, gL_nW, gK_sW, gK_sI, gK_sR, gK_sC, gK_nW, gN_sW, gN_sI, gN_sR, gN_sC, gN_nW, gC_sW, gC_sI, gC_sR, gC_sC, gC_nW, gZ_sW, gZ_sI, gZ_sR, gZ_sC, gZ_nW, cl_3, cl_10]
  refine ⟨narI 0, by decide, by omega, by omega, 25, by decide, fun o ho => ?_⟩
  have n1 : ¬ p = o := fun e => ho (e ▸ hp)
  simp only [hp, hk, if_neg n1, List.mem_append, true_or, true_and]
  refine ⟨by decide, by omega, by omega, 26, by decide, fun a ha => ?_⟩
  have n2 : ¬ p = a := fun e => ha (Or.inl (e ▸ hp))
  simp only [hp, hk, if_neg n1, if_neg n2, List.mem_append, true_or, true_and]
  refine ⟨narI 0, by decide, by omega, by omega, 27, by decide, fun t ht => ?_⟩
  have n3 : ¬ p = t := fun e => ht (Or.inl (Or.inl (e ▸ hp)))
  simp only [hp, hk, if_neg n1, if_neg n2, if_neg n3, List.mem_append, true_or, true_and]
  refine ⟨by decide, by omega, by omega, 28, by decide, fun c hc1 => ?_⟩
  have n4 : ¬ p = c := fun e => hc1 (Or.inl (Or.inl (Or.inl (e ▸ hp))))
  simp only [hp, hk, if_neg n1, if_neg n2, if_neg n3, if_neg n4, List.mem_append, true_or, true_and]
  refine ⟨by decide, by omega, by omega, 29, by decide, fun u hu => ?_⟩
  have n5 : ¬ p = u := fun e => hu (Or.inl (Or.inl (Or.inl (Or.inl (e ▸ hp)))))
  simp only [hp, hk, if_neg n1, if_neg n2, if_neg n3, if_neg n4, if_neg n5, List.mem_append, true_or, true_and]
  simp only [List.mem_append, List.mem_singleton, not_or] at ha ht hc1 hu
  have e1 : ¬ o = a := fun e => ha.2 e.symm
  have e2 : ¬ o = t := fun e => ht.1.2 e.symm
  have e3 : ¬ o = c := fun e => hc1.1.1.2 e.symm
  have e4 : ¬ o = u := fun e => hu.1.1.1.2 e.symm
  have e5 : ¬ a = t := fun e => ht.2 e.symm
  have e6 : ¬ a = c := fun e => hc1.1.2 e.symm
  have e7 : ¬ a = u := fun e => hu.1.1.2 e.symm
  have e8 : ¬ t = c := fun e => hc1.2 e.symm
  have e9 : ¬ t = u := fun e => hu.1.2 e.symm
  have e10 : ¬ c = u := fun e => hu.2 e.symm
  refine ⟨narI 0, h _ ⟨o, a, t, c, u, ?_⟩ ?_ ?_⟩
  · simp [ArrR, gL_sW, gL_sI, gL_sR, gL_sC, gL_nW, gK_sW, gK_sI, gK_sR, gK_sC, gK_nW, gN_sW, gN_sI, gN_sR, gN_sC, gN_nW, gC_sW, gC_sI, gC_sR, gC_sC, gC_nW, gZ_sW, gZ_sI, gZ_sR, gZ_sC, gZ_nW, gI_sW, gI_sI, gI_sR, gI_sC, gI_nW, gR_sW, gR_sI, gR_sR, gR_sC, gR_nW, Nat.reduceEqDiff, false_and, and_false, if_false, true_and, narI, and_self, hp, hk, n1, n2, n3, n4, n5, e1, e2, e3, e4, e5, e6, e7, e8, e9, e10, aCm, aWm, aSd, aOf, aAm, aTo, aAc, aUs, A0s, nI_0, va_up, upd]
  · have f := (Fr.sI S 7 p 0 0).trans ((Fr.nW (sI S 7 p 0 0) 25 o 3 3 ho).trans ((Fr.sR _ 7 p 1 (some o)).trans ((Fr.nW _ 26 a 3 3 (by simp only [gL_sW, gL_sI, gL_sR, gL_sC, gL_nW, gK_sW, gK_sI, gK_sR, gK_sC, gK_nW, gN_sW, gN_sI, gN_sR, gN_sC, gN_nW, gC_sW, gC_sI, gC_sR, gC_sC, gC_nW, gZ_sW, gZ_sI, gZ_sR, gZ_sC, gZ_nW, List.mem_append, List.mem_singleton, not_or]; exact ha)).trans ((Fr.sR _ 7 p 2 (some a)).trans ((Fr.sI _ 7 p 3 0).trans ((Fr.nW _ 27 t 10 10 (by simp only [gL_sW, gL_sI, gL_sR, gL_sC, gL_nW, gK_sW, gK_sI, gK_sR, gK_sC, gK_nW, gN_sW, gN_sI, gN_sR, gN_sC, gN_nW, gC_sW, gC_sI, gC_sR, gC_sC, gC_nW, gZ_sW, gZ_sI, gZ_sR, gZ_sC, gZ_nW, List.mem_append, List.mem_singleton, not_or]; exact ht)).trans ((Fr.sR _ 7 p 4 (some t)).trans ((Fr.nW _ 28 c 10 10 (by simp only [gL_sW, gL_sI, gL_sR, gL_sC, gL_nW, gK_sW, gK_sI, gK_sR, gK_sC, gK_nW, gN_sW, gN_sI, gN_sR, gN_sC, gN_nW, gC_sW, gC_sI, gC_sR, gC_sC, gC_nW, gZ_sW, gZ_sI, gZ_sR, gZ_sC, gZ_nW, List.mem_append, List.mem_singleton, not_or]; exact hc1)).trans ((Fr.sR _ 7 p 5 (some c)).trans ((Fr.nW _ 29 u 10 10 (by simp only [gL_sW, gL_sI, gL_sR, gL_sC, gL_nW, gK_sW, gK_sI, gK_sR, gK_sC, gK_nW, gN_sW, gN_sI, gN_sR, gN_sC, gN_nW, gC_sW, gC_sI, gC_sR, gC_sC, gC_nW, gZ_sW, gZ_sI, gZ_sR, gZ_sC, gZ_nW, List.mem_append, List.mem_singleton, not_or]; exact hu)).trans ((Fr.sR _ 7 p 6 (some u)).trans (Fr.sI _ 7 p 7 0))))))))))))
    exact f.mono (fun t' a' _ q => by simpa using q) (by decide) (by decide)
  · intro t' a' hA hin
    simp [SetA, gI_sW, gI_sI, gI_sR, gI_sC, gI_nW, gR_sW, gR_sI, gR_sR, gR_sC, gR_nW, Nat.reduceEqDiff, false_and, and_false, if_false, true_and, narI, and_self, va_up, upd] at hA
    rcases hA with q | ⟨-, q⟩ | ⟨-, q⟩ | ⟨-, q⟩ | ⟨-, q⟩ | ⟨-, q⟩
    · exact q
    · exact absurd hin (q ▸ ho)
    · exact absurd hin (q ▸ ha.1)
    · exact absurd hin (q ▸ ht.1.1)
    · exact absurd hin (q ▸ hc1.1.1.1)
    · exact absurd hin (q ▸ hu.1.1.1.1)
end SPS
