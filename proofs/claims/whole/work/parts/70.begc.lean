/-! THE CONVERTER: a change begun; the present state changed -/
theorem sg_up {f : Nat → Nat} {k v : Nat} : ∀ m, k < m → sg (upN f k v) 0 m + f k = sg f 0 m + v := by
  intro m
  induction m with
  | zero => intro h; exact absurd h (Nat.not_lt_zero _)
  | succ m ih =>
    intro h
    by_cases e : k = m
    · subst e
      have h2 : ∀ j, j ≤ k → sg (upN f k v) 0 j = sg f 0 j := by
        intro j
        induction j with
        | zero => intro _; rfl
        | succ j ih2 =>
          intro hj
          simp only [sg, Nat.zero_add, upN]
          rw [ih2 (by omega), if_neg (show ¬ j = k by omega)]
      simp only [sg, Nat.zero_add]
      rw [h2 k (Nat.le_refl _)]
      simp only [upN, if_true]
      omega
    · have := ih (by omega)
      simp only [sg, Nat.zero_add]
      simp only [upN, if_neg (show ¬ m = k from fun z => e z.symm)] at this ⊢
      omega
section CRB
variable {ks : Nat → Nat} {d : Nat} {Q : QP} {S : M9} {x M u v tl hn wn fr : Nat} {T Wt : Nat → Int32} {eA : Int32} {H : Nat → CSt} {C : CSt} {s0 s1 : CSl}
/-- the other parts stay where the nine states or the history are written -/
theorem nine_out {t : Nat} {W : Nat → Nat → Prop} {hi : Nat} (hW : ∀ t a, W t a → (t = 2 ∧ a = hi) ∨ NineA t a) (h : t < 100 ∧ ¬ t = 2 ∧ ¬ t = 3 ∧ ¬ t = 6 ∧ ¬ t = 9) : ∀ a, ¬ W t a := fun a w => by
  have := hW t a w
  unfold NineA at this
  omega
theorem cr_st {c : Nat} (h : CR S x M u v tl T eA hn H C wn Wt s0 s1 fr) : ∃ st L, CQ S x st M L C ∧ gC S ≤ u ∧ gZ S ≤ v + 4 * 180000 ∧ L ≤ 20000 ∧ (∀ S' L' C' M', StateR S' st 164 L' C' → StV M' C' → M ≤ M' → Fr S S' (StA S st 164) c (4 * (L' - L)) → L ≤ L' → gR S' 9 st 3 = gR S 9 st 3 → gR S' 9 st 4 = gR S 9 st 4 → (fr = 0 ∨ (rgN C' = rgN C ∧ rcd C' = rcd C)) → CR S' x M' (u + c) v tl T eA hn H C' wn Wt s0 s1 fr) := by
  obtain ⟨tx, hi, rp, sb, o0, o1, nx, sa, ka, na, Ls, Cs, a1, a2, a3, a4, a5, a6, a7, a8, a9, a10, a11, ⟨b1, b2, b3, b4, b5⟩, a13⟩ := h
  subst a5
  have hL : ∀ j, j < 9 → Ls j ≤ 20000 := fun j hj => by
    have := (a4.1 j hj).1
    obtain ⟨_, _, _, _, _, _, _, _, _, _, _, _, _, _, _, _, _, w, -⟩ := this
    obtain ⟨_, _, _, _, _, _, w5, -⟩ := w
    exact w5.2
  have hLs := sg_le (f := Ls) (K := 20000) (i := 0) 9 (fun j hj => by rw [Nat.zero_add]; exact hL j hj)
  refine ⟨sa 8, Ls 8, ⟨a1.1, a1.2.1, a1.2.2.2.2.2.1, (a4.1 8 (by decide)).1, a6 8 (by decide)⟩, a13.1, by have := a13.2; omega, hL 8 (by decide), fun S' L' C' M' hR hV hM hF hLL e3 e4 hfr => ?_⟩
  have hN := a4.up (by decide) hF hR e3 e4
  have hFn : ∀ t a, StA S (sa 8) 164 t a → (t = 2 ∧ a = hi) ∨ NineA t a := fun t a w => Or.inr (StA.nine (j := 8) w)
  have q := fun t (w : t < 100 ∧ ¬ t = 2 ∧ ¬ t = 3 ∧ ¬ t = 6 ∧ ¬ t = 9) => nine_out hFn w
  have n2 : ∀ a, ¬ StA S (sa 8) 164 2 a := fun a w => by rcases w with w | w | w | w <;> omega
  have hu := sg_up (f := Ls) (k := 8) (v := L') 9 (by decide)
  refine ⟨tx, hi, rp, sb, o0, o1, nx, sa, ka, na, upN Ls 8 L', upN Cs 8 C', a1.fr hF (q 10 (by decide) _), a2.fr hF (q 60 (by decide) _), a3, hN, by simp [upN], fun j hj => ?_, a7.fr hF (n2 _) (q 12 (by decide)), fun i hi2 => ?_, a9.fr hF (q 4 (by decide) _), ?_, a11.fr hF (q 1 (by decide) _) (q 15 (by decide)), ⟨b1.fr hF (q 8 (by decide) _) (q 63 (by decide)), b2.fr hF (q 8 (by decide) _) (q 64 (by decide)), b3, b4, b5⟩, by have := hF.2.2.1; omega, by have := hF.2.2.2; omega⟩
  · by_cases e : j = 8
    · simp only [upN, if_pos e]; exact hV
    · simp only [upN, if_neg e]; exact (a6 j hj).mono hM
  · simp only [upN, if_neg (show ¬ (nx + 15 - i) % 8 = 8 by omega)]
    exact a8 i hi2
  · rcases a10 with w | ⟨w1, w2⟩
    · exact Or.inl w
    · rcases hfr with z | ⟨z1, z2⟩
      · exact Or.inl z
      · rw [z1, z2]
        exact Or.inr ⟨w1, RampQ.fr w2 hF (q 4 (by decide) _) (q 61 (by decide)) (q 62 (by decide))⟩
theorem sp_beginChange2 (hm : u + 60 ≤ cCM ∧ v + 900000 ≤ cSM) (hM : M ≤ 10000) (hR : CR S x M u v tl T eA hn H C wn Wt s0 s1 fr) (h : ∀ S', CR S' x M (u + 2) v tl T eA (min (hn + 1) 8) (pushH C H) C wn Wt s0 s1 0 → Fr S S' (fun t _ => ¬ nX t) 2 80000 → gR S' 10 x = gR S 10 x → Fr S S' (fun t a => t = 2 ∨ t = 10 ∨ NineA t a) 2 80000 → Q (.inl none) S') : WG ks (d + 7) n_X8_beginChange [.ref x] S Q := by
  refine ⟨by simp [cat1, Value.category], by show (1 : Nat) ≤ 1; decide, ?_⟩
  show Run ks (WG ks (d + 6)) Q tb_X8_beginChange 0 [some (.ref x)] [] S
  obtain ⟨tx, hi, rp, sb, o0, o1, nx, sa, ka, na, Ls, Cs, a1, a2, a3, a4, a5, a6, a7, a8, a9, a10, a11, ⟨b1, b2, b3, b4, b5⟩, a13⟩ := hR
  subst a5
  have hL : ∀ (S' : M9) (Ls' : Nat → Nat) (Cs' : Nat → CSt), NineR S' sa ka na Ls' Cs' → ∀ j, j < 9 → Ls' j ≤ 20000 := fun S' Ls' Cs' w9 j hj => by
    have := (w9.1 j hj).1
    obtain ⟨_, _, _, _, _, _, _, _, _, _, _, _, _, _, _, _, _, w, -⟩ := this
    obtain ⟨_, _, _, _, _, _, w5, -⟩ := w
    exact w5.2
  have hLs := sg_le (f := Ls) (K := 20000) (i := 0) 9 (fun j hj => by rw [Nat.zero_add]; exact hL S Ls Cs a4 j hj)
  have hx := a1
  obtain ⟨x1, x2, x3, x4, x5, x6, x7, x8, x9, x10⟩ := hx
  have hHi := a7
  obtain ⟨r, h1, h2, h3, h4, h5, -⟩ := hHi
  have hs := (a6 8 (by decide)).2.2.1
  have hLn := hL S Ls Cs a4 nx (by omega)
  simp only [e_X8_beginChange_0, e_X8_beginChange_1, e_X8_beginChange_4, e_X8_beginChange_5, e_X8_beginChange_8, e_X8_beginChange_11, e_X8_beginChange_12, e_X8_beginChange_13, e_X8_beginChange_16, o_const, o_iload, o_aload, o_fload, o_dload, o_istore, o_astore, o_fstore, o_dstore, o_iinc, o_bin, o_div, o_un, o_i2l, o_i2f, o_i2d, o_f2d, o_fdiv, o_ddiv, o_lcmp, o_fcmp, o_dcmp, o_if, o_if2, o_goto, o_dup, o_dupx1, o_dup2, o_pop, o_getI, o_getR, o_putI, o_putR, o_iald, o_iast, o_bald, o_bast, o_zald, o_zast, o_aald, o_aast, o_jald, o_jast, o_dald, o_dast, o_alen, o_castA, o_new, o_newa, o_callv, o_callvN, o_calli, o_calls, o_objinit, o_iret, o_zret, o_fret, o_dret, o_aret, o_vret, o_throw, o_acopy, o_bcopy, o_clone, o_tsw, o_ldcS, o_kval, o_kcoder, o_klen, o_kald, o_tald, o_getSq, o_callk, o_callvH, gl, stl, stl2, pre2, va_rf, Value.category, catS, List.length_cons, List.length_nil, List.map_cons, List.map_nil, List.sum_cons, List.sum_nil, List.take_succ_cons, List.take_zero, List.drop_succ_cons, List.drop_zero, List.reverse_cons, List.reverse_nil, List.nil_append, List.cons_append, true_and, and_true, if_true, Nat.reduceAdd, Nat.reduceLT, Nat.reduceLeDiff, x1, x2, x6, x7]
  refine ⟨⟨hi, _, rfl, rfl, h1, h2⟩, sp_remember a4 a7 (by omega) (by omega) (by omega) ?_⟩
  intro S1 L1 hN1 hH1 F1 hL1
  have q := fun t (w : t < 100 ∧ ¬ t = 2 ∧ ¬ t = 3 ∧ ¬ t = 6 ∧ ¬ t = 9) => nine_out (fun _ _ w => w) w (W := fun t a => (t = 2 ∧ a = hi) ∨ NineA t a)
  have c1 := a1.fr F1 (q 10 (by decide) _)
  have hL1' := hL S1 _ _ hN1 nx (by omega)
  simp only [upN, if_true] at hL1'
  have hxc := c1
  obtain ⟨y1, y2, y3, y4, y5, y6, y7, y8, y9, y10⟩ := hxc
  simp only [behind, e_X8_beginChange_0, e_X8_beginChange_1, e_X8_beginChange_4, e_X8_beginChange_5, e_X8_beginChange_8, e_X8_beginChange_11, e_X8_beginChange_12, e_X8_beginChange_13, e_X8_beginChange_16, o_const, o_iload, o_aload, o_fload, o_dload, o_istore, o_astore, o_fstore, o_dstore, o_iinc, o_bin, o_div, o_un, o_i2l, o_i2f, o_i2d, o_f2d, o_fdiv, o_ddiv, o_lcmp, o_fcmp, o_dcmp, o_if, o_if2, o_goto, o_dup, o_dupx1, o_dup2, o_pop, o_getI, o_getR, o_putI, o_putR, o_iald, o_iast, o_bald, o_bast, o_zald, o_zast, o_aald, o_aast, o_jald, o_jast, o_dald, o_dast, o_alen, o_castA, o_new, o_newa, o_callv, o_callvN, o_calli, o_calls, o_objinit, o_iret, o_zret, o_fret, o_dret, o_aret, o_vret, o_throw, o_acopy, o_bcopy, o_clone, o_tsw, o_ldcS, o_kval, o_kcoder, o_klen, o_kald, o_tald, o_getSq, o_callk, o_callvH, gl, stl, stl2, pre2, va_rf, Value.category, catS, List.length_cons, List.length_nil, List.map_cons, List.map_nil, List.sum_cons, List.sum_nil, List.take_succ_cons, List.take_zero, List.drop_succ_cons, List.drop_zero, List.reverse_cons, List.reverse_nil, List.nil_append, List.cons_append, true_and, and_true, if_true, Nat.reduceAdd, Nat.reduceLT, Nat.reduceLeDiff, y1, y2, gL_sW, gL_sI, gL_sR, gL_sC, gL_nW, gK_sW, gK_sI, gK_sR, gK_sC, gK_nW, gN_sW, gN_sI, gN_sR, gN_sC, gN_nW, gC_sW, gC_sI, gC_sR, gC_sC, gC_nW, gZ_sW, gZ_sI, gZ_sR, gZ_sC, gZ_nW]
  have F2 := Fr.sI S1 10 x 6 0
  have hu := sg_up (f := Ls) (k := nx) (v := L1) 9 (by omega)
  have F12 : Fr S (sI S1 10 x 6 0) (fun t _ => ¬ nX t) 2 80000 := (F1.trans F2).mono (fun t a ha w => ?_) (by omega) (by omega)
  · refine ⟨⟨rfl, rfl⟩, h _ ⟨tx, hi, rp, sb, o0, o1, (nx + 1) % 8, sa, ka, na, upN Ls nx L1, upN Cs nx (Cs 8), ?_, (a2.fr F1 (q 60 (by decide) _)).fr F2 (fun w => absurd w.1 (by decide)), a3, hN1.fr F2 (fun t a w1 w2 => by unfold NineA at w1; omega) (fun a w => absurd w.1 (by decide)) (fun t a h1 h2 w => by omega), by simp only [upN, if_neg (show ¬ 8 = nx by omega)], fun j hj => ?_, hH1.fr F2 (fun w => absurd w.1 (by decide)) (fun a w => absurd w.1 (by decide)), fun i hi2 => ?_, (a9.fr F1 (q 4 (by decide) _)).fr F2 (fun w => absurd w.1 (by decide)), Or.inl rfl, (a11.fr F1 (q 1 (by decide) _) (q 15 (by decide))).fr F2 (fun w => absurd w.1 (by decide)) (fun a w => absurd w.1 (by decide)), ⟨(b1.fr F1 (q 8 (by decide) _) (q 63 (by decide))).fr F2 (fun w => absurd w.1 (by decide)) (fun a w => absurd w.1 (by decide)), (b2.fr F1 (q 8 (by decide) _) (q 64 (by decide))).fr F2 (fun w => absurd w.1 (by decide)) (fun a w => absurd w.1 (by decide)), b3, b4, b5⟩, ?_, ?_⟩ F12 (by rw [gR_sI]; exact (F1.2.1 10 x x1 (q 10 (by decide) _)).2.1) ((F1.trans F2).mono (fun t a _ w => by rcases w with (w | w) | w; exact Or.inl w.1; exact Or.inr (Or.inr w); exact Or.inr (Or.inl w.1)) (by omega) (by omega))⟩
    · have e : ∀ j, ¬ j = 6 → gI (sI S1 10 x 6 0) 10 x j = gI S1 10 x j := fun j hj => by rw [gI_sIk, if_neg (fun w => hj w.2.2)]
      exact ⟨(F2.1 x y1).1, (F2.1 x y1).2.1.trans y2, by rw [gR_sI]; exact y3, by rw [e _ (by decide)]; exact y4, by rw [e _ (by decide)]; exact y5, by rw [gR_sI]; exact y6, by rw [gR_sI]; exact y7, by rw [gR_sI]; exact y8, by rw [gI_sIk, if_pos ⟨rfl, rfl, rfl⟩]; rfl, by rw [gR_sI]; exact y10.1, by rw [gR_sI]; exact y10.2.1, by rw [gR_sI]; exact y10.2.2⟩
    · by_cases e : j = nx
      · simp only [upN, if_pos e]; exact a6 8 (by decide)
      · simp only [upN, if_neg e]; exact a6 j hj
    · unfold pushH
      by_cases e : i = 0
      · subst e
        simp only [upN, if_true, if_pos (show ((nx + 1) % 8 + 15 - 0) % 8 = nx by omega)]
      · rw [if_neg e]
        simp only [upN, if_neg (show ¬ ((nx + 1) % 8 + 15 - i) % 8 = nx by omega)]
        rw [show ((nx + 1) % 8 + 15 - i) % 8 = (nx + 15 - (i - 1)) % 8 by omega]
        exact a8 (i - 1) (by omega)
    · have w := F1.2.2.1; have e : gC (sI S1 10 x 6 0) = gC S1 := rfl; omega
    · have w := F1.2.2.2; have e : gZ (sI S1 10 x 6 0) = gZ S1 := rfl; omega
  · unfold nX
    rcases w with (w | w) | w
    · omega
    · unfold NineA at w; omega
    · have := w.1; omega
theorem sp_beginChange (hm : u + 60 ≤ cCM ∧ v + 900000 ≤ cSM) (hM : M ≤ 10000) (hR : CR S x M u v tl T eA hn H C wn Wt s0 s1 fr) (h : ∀ S', CR S' x M (u + 2) v tl T eA (min (hn + 1) 8) (pushH C H) C wn Wt s0 s1 0 → Fr S S' (fun t _ => ¬ nX t) 2 80000 → Q (.inl none) S') : WG ks (d + 7) n_X8_beginChange [.ref x] S Q :=
  sp_beginChange2 hm hM hR (fun S' a b _ _ => h S' a b)
end CRB
