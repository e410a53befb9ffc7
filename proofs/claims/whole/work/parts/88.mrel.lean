/-! errorPosition; THE MODEL: what it holds -/
section SPS
variable {ks : Nat → Nat} {d : Nat} {Q : QP} {S : M9} {x M u v tl hn wn fr : Nat} {T Wt : Nat → Int32} {eA : Int32} {H : Nat → CSt} {C : CSt} {s0 s1 : CSl}
theorem sp_errorPosition (hR : CR S x M u v tl T eA hn H C wn Wt s0 s1 fr) (h : Q (.inl (some (.int eA))) S) : WG ks (d + 1) n_X8_errorPosition [.ref x] S Q := by
  refine ⟨by simp [cat1, Value.category], by show (1 : Nat) ≤ 1; decide, ?_⟩
  show Run ks (WG ks d) Q tb_X8_errorPosition 0 [some (.ref x)] [] S
  obtain ⟨tx, ⟨x1, x2⟩, g0, g1, g2, -⟩ := cr_tx hR
  simp only [e_X8_errorPosition_0, e_X8_errorPosition_1, e_X8_errorPosition_4, o_const, o_iload, o_aload, o_fload, o_dload, o_istore, o_astore, o_fstore, o_dstore, o_iinc, o_bin, o_div, o_un, o_i2l, o_i2f, o_i2d, o_f2d, o_fdiv, o_ddiv, o_lcmp, o_fcmp, o_dcmp, o_if, o_if2, o_goto, o_dup, o_dupx1, o_dup2, o_pop, o_getI, o_getR, o_putI, o_putR, o_iald, o_iast, o_bald, o_bast, o_zald, o_zast, o_aald, o_aast, o_jald, o_jast, o_dald, o_dast, o_alen, o_castA, o_new, o_newa, o_callv, o_callvN, o_calli, o_calls, o_objinit, o_iret, o_zret, o_fret, o_dret, o_aret, o_vret, o_throw, o_acopy, o_bcopy, o_clone, o_tsw, o_ldcS, o_kval, o_kcoder, o_klen, o_kald, o_tald, o_getSq, o_callk, o_callvH, gl, stl, stl2, pre2, va_rf, Value.category, catS, List.length_cons, List.length_nil, List.map_cons, List.map_nil, List.sum_cons, List.sum_nil, List.take_succ_cons, List.take_zero, List.drop_succ_cons, List.drop_zero, List.reverse_cons, List.reverse_nil, List.nil_append, List.cons_append, true_and, and_true, if_true, Nat.reduceAdd, Nat.reduceLT, Nat.reduceLeDiff, x1, x2, g2]
  exact h
end SPS
/-- a row of the model (its cells from o on) tells a state: only what lies within its numbers -/
def RowR (g : Nat → Int32) (o : Nat) (C : CSt) : Prop :=
  (g o = nI (aCm (sSet C)) ∧ g (o + 1) = nI (aWm (sSet C)) ∧ g (o + 2) = nI (sNoi C) ∧ g (o + 3) = nI (sKp C).1 ∧ g (o + 4) = nI (sSn C).1) ∧
  (∀ k, k < aCm (sSet C) → g (o + 5 + k) = aOf (sSet C) k ∧ g (o + 8 + k) = nI (aAm (sSet C) k)) ∧
  (∀ k, k < aWm (sSet C) → g (o + 11 + k) = nI (aTo (sSet C) k) ∧ g (o + 21 + k) = nI (aAc (sSet C) k) ∧ g (o + 31 + k) = nI (aUs (sSet C) k) ∧ g (o + 41 + k) = nI (sTab C k)) ∧
  (∀ b, b < (sKp C).1 → g (o + 51 + 32 * b) = nI (kIn C b) ∧ g (o + 51 + 32 * b + 1) = nI (kCo C b) ∧ ∀ k, k < aWm (sSet C) → g (o + 51 + 32 * b + 2 + k) = nI (thB (sSet C) (kBi C b) k) ∧ g (o + 51 + 32 * b + 12 + k) = kNo C b k ∧ g (o + 51 + 32 * b + 22 + k) = (kBi C b >>> (nI k &&& 31)) &&& 1) ∧
  (∀ k, k < (sSn C).1 → g (o + 691 + 2 * k) = nI ((sSn C).2.1 k) ∧ g (o + 691 + 2 * k + 1) = nI ((sSn C).2.2 k))
/-- a row that is the same in all the cells that are read -/
theorem RowR.cp {g g' : Nat → Int32} {o o' : Nat} {C : CSt} (h : RowR g o C) (hs : SetV (sSet C)) (hk : (sKp C).1 ≤ 20) (he : ∀ j, j < 691 + 2 * (sSn C).1 → g' (o' + j) = g (o + j)) : RowR g' o' C := by
  obtain ⟨⟨h1, h2, h3, h4, h5⟩, h6, h7, h8, h9⟩ := h
  have c3 := hs.1.2
  have w10 := hs.2.1.2
  refine ⟨⟨(he 0 (by omega)).trans h1, (he 1 (by omega)).trans h2, (he 2 (by omega)).trans h3, (he 3 (by omega)).trans h4, (he 4 (by omega)).trans h5⟩, fun k hk2 => ?_, fun k hk2 => ?_, fun b hb => ?_, fun k hk2 => ?_⟩
  · have a := h6 k hk2
    have e1 := he (5 + k) (by omega)
    have e2 := he (8 + k) (by omega)
    rw [← Nat.add_assoc, ← Nat.add_assoc] at e1 e2
    exact ⟨e1.trans a.1, e2.trans a.2⟩
  · have a := h7 k hk2
    have e1 := he (11 + k) (by omega)
    have e2 := he (21 + k) (by omega)
    have e3 := he (31 + k) (by omega)
    have e4 := he (41 + k) (by omega)
    rw [← Nat.add_assoc, ← Nat.add_assoc] at e1 e2 e3 e4
    exact ⟨e1.trans a.1, e2.trans a.2.1, e3.trans a.2.2.1, e4.trans a.2.2.2⟩
  · obtain ⟨a1, a2, a3⟩ := h8 b hb
    have e1 := he (51 + 32 * b) (by omega)
    have e2 := he (51 + 32 * b + 1) (by omega)
    simp only [← Nat.add_assoc] at e1 e2
    refine ⟨e1.trans a1, e2.trans a2, fun k hk2 => ?_⟩
    have a := a3 k hk2
    have e3 := he (51 + 32 * b + 2 + k) (by omega)
    have e4 := he (51 + 32 * b + 12 + k) (by omega)
    have e5 := he (51 + 32 * b + 22 + k) (by omega)
    simp only [← Nat.add_assoc] at e3 e4 e5
    exact ⟨e3.trans a.1, e4.trans a.2.1, e5.trans a.2.2⟩
  · have a := h9 k hk2
    have e1 := he (691 + 2 * k) (by omega)
    have e2 := he (691 + 2 * k + 1) (by omega)
    simp only [← Nat.add_assoc] at e1 e2
    exact ⟨e1.trans a.1, e2.trans a.2⟩
/-- the bits of a conversion are those of the weights -/
def BitV (C : CSt) : Prop := ∀ b, b < (sKp C).1 → ∃ B, B < 2 ^ aWm (sSet C) ∧ kBi C b = nI B
/-- an array of the model: at the field f of m, of kind t and length n -/
def MAr (S : M9) (m f t n a : Nat) : Prop := gR S 11 m f = some a ∧ a ∈ gL S ∧ gK S a = t ∧ gN S a = n
