/-! THE MODEL: a quiet and a noisy conversion -/
theorem RowR.noi {g g' : Nat → Int32} {C : CSt} {z : Nat} (h : RowR g 0 C) (he : ∀ j, ¬ j = 2 → g' j = g j) (h2 : g' 2 = nI z) : RowR g' 0 (setNoi C z) := by
  obtain ⟨⟨h1, h2', h3, h4, h5⟩, h6, h7, h8, h9⟩ := h
  refine ⟨⟨(he 0 (by decide)).trans h1, (he 1 (by decide)).trans h2', h2, (he 3 (by decide)).trans h4, (he 4 (by decide)).trans h5⟩, fun k hk => ?_, fun k hk => ?_, fun b hb => ?_, fun k hk => ?_⟩
  · have a := h6 k hk
    exact ⟨(he _ (by omega)).trans a.1, (he _ (by omega)).trans a.2⟩
  · have a := h7 k hk
    exact ⟨(he _ (by omega)).trans a.1, (he _ (by omega)).trans a.2.1, (he _ (by omega)).trans a.2.2.1, (he _ (by omega)).trans a.2.2.2⟩
  · obtain ⟨a1, a2, a3⟩ := h8 b hb
    exact ⟨(he _ (by omega)).trans a1, (he _ (by omega)).trans a2, fun k hk => ⟨(he _ (by omega)).trans (a3 k hk).1, (he _ (by omega)).trans (a3 k hk).2.1, (he _ (by omega)).trans (a3 k hk).2.2⟩⟩
  · have a := h9 k hk
    exact ⟨(he _ (by omega)).trans a.1, (he _ (by omega)).trans a.2⟩
theorem RowR.noi0 {g g' : Nat → Int32} {C : CSt} (h : RowR g 0 C) (he : ∀ j, g' j = g j) : RowR g' 0 C := by
  rw [show g' = g from funext he]; exact h
theorem qst_m1 {A : ASet} {x sh sh' : Int32} : ∀ {k}, k ≤ 30 → qst A x (-1) sh k = qst A x (-1) sh' k := by
  intro k
  induction k with
  | zero => intro _; rfl
  | succ k ih =>
    intro hk
    have hsd : ¬ nI k = -1 := fun e => by
      have := nI_pos (show k < 2 ^ 31 by omega)
      rw [e] at this
      exact this (by decide)
    unfold qst
    rw [ih (by omega), if_neg hsd, if_neg hsd]
section MSTL
variable {A : ASet} {x : Int32} {z : Nat}
def nN (A : ASet) (x : Int32) (z i : Nat) : Nat → Int32 := (nst A x z i (fun _ => 0) (aWm A - i)).2.2.2
theorem nN_e {i k : Nat} (D : Nat → Int32) (h : i + k < aWm A) : (nst A x z i D (aWm A - i)).2.2.2 (i + k) = (if aAm A (aUs A (i + k)) = 0 then 0 else nzI (nzN (nst A x z i (fun _ => 0) k).2.2.1) (aAm A (aUs A (i + k)))) := by
  have := nst_N (A := A) (x := x) (z0 := z) (i := i) (D := D) (aWm A - i - k) k (by omega)
  rw [show k + (aWm A - i - k) = aWm A - i by omega] at this
  rw [this, (nst_D D (fun _ => 0) k).2.2]
theorem nB_m {sh : Int32} {i : Nat} (h : i ≤ aWm A) (h30 : aWm A ≤ 30) : nB A x z i = nI (wst A x (-1) sh i (nN A x z i) (aWm A - i)).2 :=
  (wst_n (fun j hj => nN_e _ (by omega)) (by omega)).2
theorem nB_bit (h30 : aWm A ≤ 30) : ∃ B, B < 2 ^ aWm A ∧ nB A x z 0 = nI B := by
  refine ⟨_, ?_, nB_m (sh := 0) (Nat.zero_le _) h30⟩
  have := wst_b (A := A) (x := x) (sd := -1) (sh := 0) (i := 0) (N := nN A x z 0) (aWm A - 0)
  rw [Nat.zero_add, Nat.sub_zero] at this
  exact this
theorem nst_zs {i k : Nat} {D : Nat → Int32} : (nst A x z i D (k + 1)).2.2.1 = (if aAm A (aUs A (i + k)) = 0 then (nst A x z i D k).2.2.1 else nzN (nst A x z i D k).2.2.1) := by
  by_cases c : x + aOf A (aUs A (i + k)) + (if aAm A (aUs A (i + k)) = 0 then (0 : Int32) else nzI (nzN (nst A x z i D k).2.2.1) (aAm A (aUs A (i + k)))) < nI ((nst A x z i D k).1 + aAc A (i + k))
  · rw [nst_lt rfl rfl c]
  · rw [nst_ge rfl rfl c]
/-- the thresholds by the bits at the end -/
theorem wst_th {sd sh : Int32} {N : Nat → Int32} {n j : Nat} (hn : n ≤ 30) (hj : j < n) : (wst A x sd sh 0 N j).1 + aAc A j = thB A (nI (wst A x sd sh 0 N n).2) j := by
  have b1 := wst_b31 (A := A) (x := x) (sd := sd) (sh := sh) (i := 0) (k := j) (N := N) (by omega)
  have b2 := wst_b31 (A := A) (x := x) (sd := sd) (sh := sh) (i := 0) (k := n) (N := N) (by omega)
  unfold thB
  rw [wst_l j rfl (by omega)]
  refine congrArg (· + aAc A j) (sg_ext2 j (fun l hl => ?_))
  unfold lvF
  have := wst_k (A := A) (x := x) (sd := sd) (sh := sh) (i := 0) (N := N) (n - j) j l (by omega)
  rw [show j + (n - j) = n by omega] at this
  rw [bit_at b1 (by omega), bit_at b2 (by omega), this]
end MSTL
section SPS
variable {ks : Nat → Nat} {d : Nat} {Q : QP} {S : M9} {m : Nat} {ad : Nat → Nat} {C : CSt}
theorem sp_mQuiet (hM : MS S m ad) (hR : RowR (gI S 40 (ad 0)) 0 C) (hV : SetV (sSet C)) (hz : sNoi C ≤ 65535) {x sd sh : Int32} (h20 : gI S 11 m 20 = sd) (h21 : gI S 11 m 21 = sh)
    (h : ∀ S', MS S' m ad → (∀ j, gI S' 40 (ad 0) j = gI S 40 (ad 0) j) → Fr S S' (fun t a => (t = 40 ∧ a = ad 0) ∨ t = 45 ∨ t = 46 ∨ t = 47) 0 0 → Q (.inl (some (.int (nI (cvC C (qst (sSet C) x sd sh (aWm (sSet C))).2))))) S') : WG ks (d + 2) n_X9_converts [.ref m, .int x, .int 0, .int 1] S Q := by
  refine ⟨by simp [cat1, Value.category], by show (4 : Nat) ≤ 9; decide, ?_⟩
  show Run ks (WG ks (d + 1)) Q tb_X9_converts 0 [some (.ref m), some (.int x), some (.int 0), some (.int 1), none, none, none, none, none] [] S
  simp only [e_X9_converts_0, e_X9_converts_1, e_X9_converts_3, e_X9_converts_4, e_X9_converts_6, e_X9_converts_7, e_X9_converts_11, e_X9_converts_12, e_X9_converts_15, e_X9_converts_16, e_X9_converts_17, e_X9_converts_20, e_X9_converts_21, e_X9_converts_24, e_X9_converts_26, e_X9_converts_28, e_X9_converts_29, e_X9_converts_30, e_X9_converts_32, e_X9_converts_33, e_X9_converts_36, e_X9_converts_38, e_X9_converts_40, e_X9_converts_41, e_X9_converts_44, e_X9_converts_46, e_X9_converts_48, e_X9_converts_49, e_X9_converts_50, e_X9_converts_51, e_X9_converts_52, e_X9_converts_53, e_X9_converts_56, e_X9_converts_58, e_X9_converts_59, e_X9_converts_62, e_X9_converts_63, e_X9_converts_66, e_X9_converts_67, e_X9_converts_69, e_X9_converts_73, e_X9_converts_75, e_X9_converts_76, e_X9_converts_79, e_X9_converts_82, e_X9_converts_83, e_X9_converts_86, e_X9_converts_89, e_X9_converts_90, e_X9_converts_92, e_X9_converts_93, e_X9_converts_96, e_X9_converts_98, e_X9_converts_99, e_X9_converts_100, e_X9_converts_103, e_X9_converts_104, e_X9_converts_106, e_X9_converts_107, e_X9_converts_108, e_X9_converts_109, e_X9_converts_111, e_X9_converts_112, e_X9_converts_113, e_X9_converts_116, e_X9_converts_118, e_X9_converts_119, e_X9_converts_120, e_X9_converts_121, e_X9_converts_124, e_X9_converts_126, e_X9_converts_127, e_X9_converts_130, e_X9_converts_131, e_X9_converts_134, e_X9_converts_135, e_X9_converts_136, e_X9_converts_137, e_X9_converts_140, e_X9_converts_142, e_X9_converts_143, e_X9_converts_144, e_X9_converts_147, e_X9_converts_148, e_X9_converts_151, e_X9_converts_153, e_X9_converts_154, e_X9_converts_157, e_X9_converts_159, e_X9_converts_161, e_X9_converts_163, e_X9_converts_164, e_X9_converts_167, e_X9_converts_169, e_X9_converts_170, e_X9_converts_171, e_X9_converts_174, e_X9_converts_176, e_X9_converts_178, e_X9_converts_179, e_X9_converts_180, e_X9_converts_181, e_X9_converts_182, e_X9_converts_184, e_X9_converts_187, e_X9_converts_190, e_X9_converts_192, o_const, o_iload, o_aload, o_fload, o_dload, o_istore, o_astore, o_fstore, o_dstore, o_iinc, o_bin, o_div, o_un, o_i2l, o_i2f, o_i2d, o_f2d, o_fdiv, o_ddiv, o_lcmp, o_fcmp, o_dcmp, o_if, o_if2, o_goto, o_dup, o_dupx1, o_dup2, o_pop, o_getI, o_getR, o_putI, o_putR, o_iald, o_iast, o_bald, o_bast, o_zald, o_zast, o_aald, o_aast, o_jald, o_jast, o_dald, o_dast, o_alen, o_castA, o_new, o_newa, o_callv, o_callvN, o_calli, o_calls, o_objinit, o_iret, o_zret, o_fret, o_dret, o_aret, o_vret, o_throw, o_acopy, o_bcopy, o_clone, o_tsw, o_ldcS, o_kval, o_kcoder, o_klen, o_kald, o_tald, o_getSq, o_callk, o_callvH, gl, stl, stl2, pre2, va_rf, Value.category, catS, List.length_cons, List.length_nil, List.map_cons, List.map_nil, List.sum_cons, List.sum_nil, List.take_succ_cons, List.take_zero, List.drop_succ_cons, List.drop_zero, List.reverse_cons, List.reverse_nil, List.nil_append, List.cons_append, true_and, and_true, if_true, Nat.reduceAdd, Nat.reduceLT, Nat.reduceLeDiff]
  have hw10 := hV.2.1.2
  have c0 := code_0 (A := sSet C) (x := x) (sd := sd) (sh := sh) (i := 0) (N := fun _ => 0) (T := sTab C) (by decide)
  have key := sp_mConv_lp (ks := ks) (d := d) (Q := Q) hM hR hV (x := x) (sd := sd) (sh := sh) (qu := 1) (i := 0) (N := fun _ => 0) (Z := fun _ => sNoi C) (fun _ => hz) h20 h21 (Nat.zero_le _) (Or.inr rfl) (fun _ _ _ => ⟨rfl, rfl⟩) (fun e => absurd e (by decide)) ?_ (aWm (sSet C)) 0 S none none (by omega) ⟨hM, (Fr.rf S).mono (fun _ _ _ w => w.elim) (by decide) (by decide), fun _ _ => rfl, hR.1.2.2.1, fun j hj => absurd hj (Nat.not_lt_zero j)⟩
  · rw [Nat.add_zero, c0] at key
    refine (?_)
    exact key
  · intro S' hI
    obtain ⟨i1, i2, i3, i4, -⟩ := hI
    have hh := h S' i1 (fun j => ?_) i2
    · rw [wst_q (aWm (sSet C)) (by omega)] at hh
      exact hh
    · by_cases e : j = 2
      · rw [e, i4]; exact hR.1.2.2.1.symm
      · exact i3 j e
theorem sp_mNoisy (hM : MS S m ad) (hR : RowR (gI S 40 (ad 0)) 0 C) (hV : SetV (sSet C)) (hz : sNoi C ≤ 65535) {x : Int32} {i : Nat} (hi : i ≤ aWm (sSet C)) (h20 : gI S 11 m 20 = -1)
    (h : ∀ S', MS S' m ad → RowR (gI S' 40 (ad 0)) 0 (setNoi C (nZ (sSet C) x (sNoi C) i)) → (∀ j, ¬ j = 2 → gI S' 40 (ad 0) j = gI S 40 (ad 0) j) → Fr S S' (fun t a => (t = 40 ∧ a = ad 0) ∨ t = 45 ∨ t = 46 ∨ t = 47) 0 0 →
      (i = 0 → ∀ k D, k < aWm (sSet C) → gI S' 45 (ad 17) k = nI (thB (sSet C) (nB (sSet C) x (sNoi C) 0) k) ∧ gI S' 46 (ad 18) k = nDr (sSet C) x (sNoi C) 0 D k ∧ gI S' 47 (ad 19) k = (nB (sSet C) x (sNoi C) 0 >>> (nI k &&& 31)) &&& 1) →
      Q (.inl (some (.int (nI (cvC C (nB (sSet C) x (sNoi C) i)))))) S') : WG ks (d + 2) n_X9_converts [.ref m, .int x, .int (nI i), .int 0] S Q := by
  refine ⟨by simp [cat1, Value.category], by show (4 : Nat) ≤ 9; decide, ?_⟩
  show Run ks (WG ks (d + 1)) Q tb_X9_converts 0 [some (.ref m), some (.int x), some (.int (nI i)), some (.int 0), none, none, none, none, none] [] S
  simp only [e_X9_converts_0, e_X9_converts_1, e_X9_converts_3, e_X9_converts_4, e_X9_converts_6, e_X9_converts_7, e_X9_converts_11, e_X9_converts_12, e_X9_converts_15, e_X9_converts_16, e_X9_converts_17, e_X9_converts_20, e_X9_converts_21, e_X9_converts_24, e_X9_converts_26, e_X9_converts_28, e_X9_converts_29, e_X9_converts_30, e_X9_converts_32, e_X9_converts_33, e_X9_converts_36, e_X9_converts_38, e_X9_converts_40, e_X9_converts_41, e_X9_converts_44, e_X9_converts_46, e_X9_converts_48, e_X9_converts_49, e_X9_converts_50, e_X9_converts_51, e_X9_converts_52, e_X9_converts_53, e_X9_converts_56, e_X9_converts_58, e_X9_converts_59, e_X9_converts_62, e_X9_converts_63, e_X9_converts_66, e_X9_converts_67, e_X9_converts_69, e_X9_converts_73, e_X9_converts_75, e_X9_converts_76, e_X9_converts_79, e_X9_converts_82, e_X9_converts_83, e_X9_converts_86, e_X9_converts_89, e_X9_converts_90, e_X9_converts_92, e_X9_converts_93, e_X9_converts_96, e_X9_converts_98, e_X9_converts_99, e_X9_converts_100, e_X9_converts_103, e_X9_converts_104, e_X9_converts_106, e_X9_converts_107, e_X9_converts_108, e_X9_converts_109, e_X9_converts_111, e_X9_converts_112, e_X9_converts_113, e_X9_converts_116, e_X9_converts_118, e_X9_converts_119, e_X9_converts_120, e_X9_converts_121, e_X9_converts_124, e_X9_converts_126, e_X9_converts_127, e_X9_converts_130, e_X9_converts_131, e_X9_converts_134, e_X9_converts_135, e_X9_converts_136, e_X9_converts_137, e_X9_converts_140, e_X9_converts_142, e_X9_converts_143, e_X9_converts_144, e_X9_converts_147, e_X9_converts_148, e_X9_converts_151, e_X9_converts_153, e_X9_converts_154, e_X9_converts_157, e_X9_converts_159, e_X9_converts_161, e_X9_converts_163, e_X9_converts_164, e_X9_converts_167, e_X9_converts_169, e_X9_converts_170, e_X9_converts_171, e_X9_converts_174, e_X9_converts_176, e_X9_converts_178, e_X9_converts_179, e_X9_converts_180, e_X9_converts_181, e_X9_converts_182, e_X9_converts_184, e_X9_converts_187, e_X9_converts_190, e_X9_converts_192, o_const, o_iload, o_aload, o_fload, o_dload, o_istore, o_astore, o_fstore, o_dstore, o_iinc, o_bin, o_div, o_un, o_i2l, o_i2f, o_i2d, o_f2d, o_fdiv, o_ddiv, o_lcmp, o_fcmp, o_dcmp, o_if, o_if2, o_goto, o_dup, o_dupx1, o_dup2, o_pop, o_getI, o_getR, o_putI, o_putR, o_iald, o_iast, o_bald, o_bast, o_zald, o_zast, o_aald, o_aast, o_jald, o_jast, o_dald, o_dast, o_alen, o_castA, o_new, o_newa, o_callv, o_callvN, o_calli, o_calls, o_objinit, o_iret, o_zret, o_fret, o_dret, o_aret, o_vret, o_throw, o_acopy, o_bcopy, o_clone, o_tsw, o_ldcS, o_kval, o_kcoder, o_klen, o_kald, o_tald, o_getSq, o_callk, o_callvH, gl, stl, stl2, pre2, va_rf, Value.category, catS, List.length_cons, List.length_nil, List.map_cons, List.map_nil, List.sum_cons, List.sum_nil, List.take_succ_cons, List.take_zero, List.drop_succ_cons, List.drop_zero, List.reverse_cons, List.reverse_nil, List.nil_append, List.cons_append, true_and, and_true, if_true, Nat.reduceAdd, Nat.reduceLT, Nat.reduceLeDiff]
  have hw10 := hV.2.1.2
  have c0 := code_0 (A := sSet C) (x := x) (sd := -1) (sh := gI S 11 m 21) (i := i) (N := nN (sSet C) x (sNoi C) i) (T := sTab C) (by omega)
  have key := sp_mConv_lp (ks := ks) (d := d) (Q := Q) hM hR hV (x := x) (sd := -1) (sh := gI S 11 m 21) (qu := 0) (i := i) (N := nN (sSet C) x (sNoi C) i) (Z := fun k => (nst (sSet C) x (sNoi C) i (fun _ => 0) k).2.2.1) (fun k => nst_z hz k) h20 rfl hi (Or.inl rfl) (fun e => absurd e (by decide)) (fun _ k hk => ⟨fun c => ?_, fun c => ?_⟩) ?_ (aWm (sSet C) - i) 0 S none none (by omega) ⟨hM, (Fr.rf S).mono (fun _ _ _ w => w.elim) (by decide) (by decide), fun _ _ => rfl, hR.1.2.2.1, fun j hj => absurd hj (Nat.not_lt_zero j)⟩
  · rw [show i + 0 = i from rfl, c0] at key
    refine (?_)
    exact key
  · exact ⟨(nN_e _ hk).trans (if_pos c), nst_zs.trans (if_pos c)⟩
  · exact ⟨(nN_e _ hk).trans (if_neg c), nst_zs.trans (if_neg c)⟩
  · intro S' hI
    obtain ⟨i1, i2, i3, i4, i5⟩ := hI
    have eB := nB_m (A := sSet C) (x := x) (z := sNoi C) (sh := gI S 11 m 21) hi (by omega)
    rw [← eB]
    refine h S' i1 (hR.noi i3 i4) i3 i2 (fun e k D hk => ?_)
    subst e
    have q := i5 k (by omega)
    rw [Nat.zero_add, Nat.sub_zero] at q
    rw [Nat.sub_zero] at eB
    have hb := wst_b31 (A := sSet C) (x := x) (sd := -1) (sh := gI S 11 m 21) (i := 0) (k := aWm (sSet C)) (N := nN (sSet C) x (sNoi C) 0) (by omega)
    refine ⟨?_, ?_, ?_⟩
    · rw [q.1, eB, wst_th (n := aWm (sSet C)) (by omega) hk]
    · rw [q.2.1]
      have e1 := nN_e (A := sSet C) (x := x) (z := sNoi C) (i := 0) (k := k) (fun _ => 0) (by omega)
      have e2 := nN_e (A := sSet C) (x := x) (z := sNoi C) (i := 0) (k := k) D (by omega)
      rw [Nat.zero_add] at e1 e2
      exact e1.trans e2.symm
    · rw [q.2.2, eB, bit_at hb (by omega)]
end SPS
