/-! THE MODEL: all that it holds -/
def nM (t : Nat) : Prop := t = 11 ∨ t = 16 ∨ (40 ≤ t ∧ t < 60)
def MHi (S : M9) (m : Nat) (ad : Nat → Nat) (hn : Nat) (H : Nat → CSt) : Prop := hn ≤ 8 ∧ gI S 11 m 5 = nI hn ∧ ∀ i, i < hn → RowR (gI S 41 (ad 1)) (21153 * (hn - 1 - i)) (H i)
def MTx (S : M9) (m : Nat) (ad : Nat → Nat) (tl : Nat) (T : Nat → Int32) (eA : Int32) : Prop := tl ≤ 400 ∧ gI S 11 m 8 = nI tl ∧ (∀ j, j < tl → gI S 44 (ad 7) j = T j) ∧ gI S 11 m 16 = eA ∧ gI S 11 m 20 = -1
def MWr (S : M9) (m : Nat) (ad : Nat → Nat) (wn : Nat) (Wt : Nat → Int32) : Prop := wn ≤ 16 ∧ gI S 11 m 28 = nI wn ∧ ∀ j, j < wn → gI S 51 (ad 27) j = Wt j
def MSl (S : M9) (ad : Nat → Nat) (q : Nat) (s : CSl) : Prop := s.1 ≤ 10 ∧ gI S 16 (ad 4) q = (if s.1 = 0 then 0 else 1) ∧ (¬ s.1 = 0 → gI S 43 (ad 3) (12 * q) = nI s.1 ∧ gI S 43 (ad 3) (12 * q + 1) = nI s.2.2 ∧ ∀ k, k < s.1 → gI S 43 (ad 3) (12 * q + 2 + k) = nI (s.2.1 k))
def MoR (S : M9) (m : Nat) (ad : Nat → Nat) (tl : Nat) (T : Nat → Int32) (eA : Int32) (hn : Nat) (H : Nat → CSt) (C : CSt) (wn : Nat) (Wt : Nat → Int32) (s0 s1 : CSl) : Prop :=
  MS S m ad ∧ RowR (gI S 40 (ad 0)) 0 C ∧ MHi S m ad hn H ∧ MTx S m ad tl T eA ∧ MWr S m ad wn Wt ∧ MSl S ad 0 s0 ∧ MSl S ad 1 s1
def sameF (S S' : M9) (m : Nat) : Prop := gR S' 11 m = gR S 11 m ∧ ∀ j, (j = 5 ∨ j = 8 ∨ j = 16 ∨ j = 20 ∨ j = 28) → gI S' 11 m j = gI S 11 m j
def VC (M : Nat) (C : CSt) : Prop := SetV (sSet C) ∧ ((sKp C).1 ≤ 20 ∧ (sKp C).2.1 < 20) ∧ StV M C ∧ BitV C
section MRL
variable {S S' : M9} {m tl hn wn : Nat} {ad : Nat → Nat} {T Wt : Nat → Int32} {eA : Int32} {H : Nat → CSt} {C C' : CSt} {s0 s1 : CSl} {W : Nat → Nat → Prop} {c z : Nat}
theorem MoR.up (h : MoR S m ad tl T eA hn H C wn Wt s0 s1) (hF : Fr S S' W c z) (hs : sameF S S' m) (hW : ∀ t a, (t = 16 ∨ t = 41 ∨ t = 43 ∨ t = 44 ∨ t = 51) → ¬ W t a) (hr : RowR (gI S' 40 (ad 0)) 0 C') : MoR S' m ad tl T eA hn H C' wn Wt s0 s1 := by
  obtain ⟨h1, h2, ⟨a1, a2, a3⟩, ⟨b1, b2, b3, b4, b5⟩, ⟨c1, c2, c3⟩, ⟨d1, d2, d3⟩, ⟨f1, f2, f3⟩⟩ := h
  obtain ⟨g1, g2⟩ := hs
  have hMS := h1
  obtain ⟨-, -, ⟨-, x1, -⟩, -, ⟨-, x3, -⟩, ⟨-, x4, -⟩, ⟨-, x7, -⟩, -, -, -, -, -, -, ⟨-, x27, -⟩⟩ := h1
  have e1 := (hF.2.1 41 (ad 1) x1 (hW _ _ (by decide))).1
  have e3 := (hF.2.1 43 (ad 3) x3 (hW _ _ (by decide))).1
  have e4 := (hF.2.1 16 (ad 4) x4 (hW _ _ (by decide))).1
  have e7 := (hF.2.1 44 (ad 7) x7 (hW _ _ (by decide))).1
  have e27 := (hF.2.1 51 (ad 27) x27 (hW _ _ (by decide))).1
  refine ⟨hMS.fr hF g1, hr, ⟨a1, by rw [g2 5 (by decide)]; exact a2, by rw [e1]; exact a3⟩, ⟨b1, by rw [g2 8 (by decide)]; exact b2, by rw [e7]; exact b3, by rw [g2 16 (by decide)]; exact b4, by rw [g2 20 (by decide)]; exact b5⟩, ⟨c1, by rw [g2 28 (by decide)]; exact c2, by rw [e27]; exact c3⟩, ?_, ?_⟩
  · exact ⟨d1, by rw [e4]; exact d2, by rw [e3]; exact d3⟩
  · exact ⟨f1, by rw [e4]; exact f2, by rw [e3]; exact f3⟩
theorem MoR.fr (h : MoR S m ad tl T eA hn H C wn Wt s0 s1) (hF : Fr S S' W c z) (hs : sameF S S' m) (hW : ∀ t a, (t = 16 ∨ t = 40 ∨ t = 41 ∨ t = 43 ∨ t = 44 ∨ t = 51) → ¬ W t a) : MoR S' m ad tl T eA hn H C wn Wt s0 s1 := by
  have e := (hF.2.1 40 (ad 0) h.1.2.1.2.1 (hW _ _ (by decide))).1
  exact h.up hF hs (fun t a w => hW t a (by omega)) (by rw [e]; exact h.2.1)
theorem MoR.f (h : MoR S m ad tl T eA hn H C wn Wt s0 s1) {j : Nat} {v : Int32} (hj : ¬ (j = 5 ∨ j = 8 ∨ j = 16 ∨ j = 20 ∨ j = 28)) : MoR (sI S 11 m j v) m ad tl T eA hn H C wn Wt s0 s1 :=
  h.fr (Fr.sI S 11 m j v) ⟨by rw [gR_sI], fun i hi => by rw [gI_sIk, if_neg (fun w => by omega)]⟩ (fun t a w q => by omega)
theorem MoR.cls (h : MoR S m ad tl T eA hn H C wn Wt s0 s1) (hF : Fr S S' W c z) (hW : ∀ t a, W t a → ¬ nM t) : MoR S' m ad tl T eA hn H C wn Wt s0 s1 := by
  have q := hF.2.1 11 m h.1.1.1 (fun w => hW _ _ w (by unfold nM; decide))
  exact h.fr hF ⟨q.2.1, fun j _ => by rw [q.1]⟩ (fun t a w q => hW _ _ q (by unfold nM; omega))
theorem nM_nX {t : Nat} (h : nM t) : nX t := by unfold nM at h; unfold nX; omega
theorem nM_fr (S : M9) {m j : Nat} {v : Int32} : Fr S (sI S 11 m j v) (fun t _ => nM t) 0 0 := (Fr.sI S 11 m j v).mono (fun t a _ w => by unfold nM; omega) (by decide) (by decide)
theorem Fr.nM2 {S1 : M9} (h1 : Fr S S1 (fun t _ => nM t) 0 0) (h2 : Fr S1 S' (fun t _ => nM t) 0 0) : Fr S S' (fun t _ => nM t) 0 0 := (h1.trans h2).mono (fun _ _ _ w => w.elim id id) (by decide) (by decide)
theorem Fr.toM {W : Nat → Nat → Prop} (h1 : Fr S S' W 0 0) (hW : ∀ t a, W t a → nM t) : Fr S S' (fun t _ => nM t) 0 0 := h1.mono (fun t a _ w => hW t a w) (by decide) (by decide)
end MRL
section SPS
variable {ks : Nat → Nat} {d : Nat} {Q : QP} {S : M9} {m M tl hn wn : Nat} {ad : Nat → Nat} {T Wt : Nat → Int32} {eA : Int32} {H : Nat → CSt} {C : CSt} {s0 s1 : CSl}
theorem sp_mKeep (hM : MoR S m ad tl T eA hn H C wn Wt s0 s1) (hM9 : M ≤ 9900) (hV : VC M C) (hVH : ∀ i, i < hn → VC M (H i))
    (h : ∀ S', MoR S' m ad tl T eA (min (hn + 1) 8) (pushH C H) C wn Wt s0 s1 → (∀ j, ¬ j = 5 → gI S' 11 m j = gI S 11 m j) → Fr S S' (fun t _ => nM t) 0 0 → Q (.inl none) S') : WG ks (d + 2) n_X9_keeps [.ref m] S Q := by
  obtain ⟨hMS, hR, ⟨a1, a2, a3⟩, hT, hW, hs0, hs1⟩ := hM
  have hn0 : (sSn C).1 ≤ 10000 := Nat.le_trans hV.2.2.1.2.2.1 (by omega)
  refine sp_mKeeps (n := (sSn C).1) (hn := hn) hMS hn0 a1 hR.1.2.2.2.2 a2 ?_
  intro S' q hq hMS' hg h5 hj hF
  have e0 := (hF.2.1 40 (ad 0) hMS.2.1.2.1 (fun w => by omega)).1
  have q1 := fun t a (w : t = 16 ∨ t = 40 ∨ t = 43 ∨ t = 44 ∨ t = 51) (x : a ∈ gL S) => (hF.2.1 t a x (fun w => by omega)).1
  obtain ⟨-, -, -, -, ⟨-, x3, -⟩, ⟨-, x4, -⟩, ⟨-, x7, -⟩, -, -, -, -, -, -, ⟨-, x27, -⟩⟩ := hMS
  have e3 := q1 43 _ (by decide) x3
  have e4 := q1 16 _ (by decide) x4
  have e7 := q1 44 _ (by decide) x7
  have e27 := q1 51 _ (by decide) x27
  refine h S' ⟨hMS', by rw [e0]; exact hR, ⟨by omega, by rw [← hq]; exact h5, fun i hi => ?_⟩, ?_, ?_, ?_, ?_⟩ hj (hF.toM (fun t a w => by unfold nM; omega))
  · unfold pushH
    rw [← hq, Nat.add_sub_cancel]
    by_cases e : i = 0
    · subst e
      rw [if_pos rfl, Nat.sub_zero]
      refine RowR.cp hR hV.1 hV.2.1.1 (fun j hj2 => ?_)
      rw [hg, if_pos (by omega), show 21153 * q + j - 21153 * q = j by omega, Nat.zero_add]
    · rw [if_neg e]
      have hi2 : i - 1 < hn := by omega
      have hv := hVH (i - 1) hi2
      have hn1 : (sSn (H (i - 1))).1 ≤ 9900 := Nat.le_trans hv.2.2.1.2.2.1 hM9
      refine RowR.cp (a3 (i - 1) hi2) hv.1 hv.2.1.1 (fun j hj2 => ?_)
      rw [hg, if_neg (by omega)]
      unfold shG
      by_cases c8 : hn = 8
      · rw [if_pos ⟨by simp [c8], by omega⟩]
        exact congrArg _ (by omega)
      · rw [if_neg (by simp [c8])]
        exact congrArg _ (by omega)
  · obtain ⟨b1, b2, b3, b4, b5⟩ := hT
    exact ⟨b1, by rw [hj 8 (by decide)]; exact b2, by rw [e7]; exact b3, by rw [hj 16 (by decide)]; exact b4, by rw [hj 20 (by decide)]; exact b5⟩
  · obtain ⟨c1, c2, c3⟩ := hW
    exact ⟨c1, by rw [hj 28 (by decide)]; exact c2, by rw [e27]; exact c3⟩
  · obtain ⟨d1, d2, d3⟩ := hs0
    exact ⟨d1, by rw [e4]; exact d2, by rw [e3]; exact d3⟩
  · obtain ⟨d1, d2, d3⟩ := hs1
    exact ⟨d1, by rw [e4]; exact d2, by rw [e3]; exact d3⟩
theorem sp_mThrown (hM : MS S m ad) {v : Int32} (hv : gI S 11 m 6 = v) (h : Q (.inl (some (.int v))) S) : WG ks (d + 1) n_X9_thrown [.ref m] S Q := by
  refine ⟨by simp [cat1, Value.category], by show (1 : Nat) ≤ 1; decide, ?_⟩
  show Run ks (WG ks d) Q tb_X9_thrown 0 [some (.ref m)] [] S
  obtain ⟨⟨m1, m2⟩, -⟩ := hM
  simp only [e_X9_thrown_0, e_X9_thrown_1, e_X9_thrown_4, o_const, o_iload, o_aload, o_fload, o_dload, o_istore, o_astore, o_fstore, o_dstore, o_iinc, o_bin, o_div, o_un, o_i2l, o_i2f, o_i2d, o_f2d, o_fdiv, o_ddiv, o_lcmp, o_fcmp, o_dcmp, o_if, o_if2, o_goto, o_dup, o_dupx1, o_dup2, o_pop, o_getI, o_getR, o_putI, o_putR, o_iald, o_iast, o_bald, o_bast, o_zald, o_zast, o_aald, o_aast, o_jald, o_jast, o_dald, o_dast, o_alen, o_castA, o_new, o_newa, o_callv, o_callvN, o_calli, o_calls, o_objinit, o_iret, o_zret, o_fret, o_dret, o_aret, o_vret, o_throw, o_acopy, o_bcopy, o_clone, o_tsw, o_ldcS, o_kval, o_kcoder, o_klen, o_kald, o_tald, o_getSq, o_callk, o_callvH, gl, stl, stl2, pre2, va_rf, Value.category, catS, List.length_cons, List.length_nil, List.map_cons, List.map_nil, List.sum_cons, List.sum_nil, List.take_succ_cons, List.take_zero, List.drop_succ_cons, List.drop_zero, List.reverse_cons, List.reverse_nil, List.nil_append, List.cons_append, true_and, and_true, if_true, Nat.reduceAdd, Nat.reduceLT, Nat.reduceLeDiff, m1, m2, hv]
  exact h
theorem sp_mErrPos (hM : MoR S m ad tl T eA hn H C wn Wt s0 s1) (h : ∀ S', MoR S' m ad tl T eA hn H C wn Wt s0 s1 → gI S' 11 m 6 = 0 → Fr S S' (fun t _ => nM t) 0 0 → Q (.inl (some (.int eA))) S') : WG ks (d + 1) n_X9_errorPosition [.ref m] S Q := by
  refine ⟨by simp [cat1, Value.category], by show (1 : Nat) ≤ 1; decide, ?_⟩
  show Run ks (WG ks d) Q tb_X9_errorPosition 0 [some (.ref m)] [] S
  have hMc := hM
  obtain ⟨⟨⟨m1, m2⟩, -⟩, -, -, ⟨-, -, -, b4, -⟩, -⟩ := hMc
  simp only [e_X9_errorPosition_0, e_X9_errorPosition_1, e_X9_errorPosition_2, e_X9_errorPosition_5, e_X9_errorPosition_6, e_X9_errorPosition_9, o_const, o_iload, o_aload, o_fload, o_dload, o_istore, o_astore, o_fstore, o_dstore, o_iinc, o_bin, o_div, o_un, o_i2l, o_i2f, o_i2d, o_f2d, o_fdiv, o_ddiv, o_lcmp, o_fcmp, o_dcmp, o_if, o_if2, o_goto, o_dup, o_dupx1, o_dup2, o_pop, o_getI, o_getR, o_putI, o_putR, o_iald, o_iast, o_bald, o_bast, o_zald, o_zast, o_aald, o_aast, o_jald, o_jast, o_dald, o_dast, o_alen, o_castA, o_new, o_newa, o_callv, o_callvN, o_calli, o_calls, o_objinit, o_iret, o_zret, o_fret, o_dret, o_aret, o_vret, o_throw, o_acopy, o_bcopy, o_clone, o_tsw, o_ldcS, o_kval, o_kcoder, o_klen, o_kald, o_tald, o_getSq, o_callk, o_callvH, gl, stl, stl2, pre2, va_rf, Value.category, catS, List.length_cons, List.length_nil, List.map_cons, List.map_nil, List.sum_cons, List.sum_nil, List.take_succ_cons, List.take_zero, List.drop_succ_cons, List.drop_zero, List.reverse_cons, List.reverse_nil, List.nil_append, List.cons_append, true_and, and_true, if_true, Nat.reduceAdd, Nat.reduceLT, Nat.reduceLeDiff, m1, m2, gL_sW, gL_sI, gL_sR, gL_sC, gL_nW, gK_sW, gK_sI, gK_sR, gK_sC, gK_nW, gN_sW, gN_sI, gN_sR, gN_sC, gN_nW, gC_sW, gC_sI, gC_sR, gC_sC, gC_nW, gZ_sW, gZ_sI, gZ_sR, gZ_sC, gZ_nW, narI, gI_sIk, if_neg (show ¬ (16 : Nat) = 6 by decide), Nat.reduceEqDiff, and_false, if_false, b4]
  exact h _ (hM.f (by decide)) (by rw [gI_sIk, if_pos ⟨rfl, rfl, rfl⟩]) (nM_fr S)
end SPS
