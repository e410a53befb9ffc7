/-! THE MODEL: converting, the loop -/
section MSTL
variable {A : ASet} {x sd sh : Int32} {i k : Nat} {N : Nat → Int32} {T : Nat → Nat}
theorem wst_b31 (h : i + k ≤ 30) : (wst A x sd sh i N k).2 < 2 ^ 31 := Nat.lt_of_lt_of_le (wst_b k) (Nat.pow_le_pow_right (by decide) (by omega))
theorem code_st (h : i + k < 30) : sg (cdF T (nI (wst A x sd sh i N (k + 1)).2)) 0 (i + k + 1) = sg (cdF T (nI (wst A x sd sh i N k).2)) 0 (i + k) + (if (wst A x sd sh i N (k + 1)).2 / 2 ^ (i + k) % 2 = 1 then T (i + k) else 0) := by
  have b1 := wst_b31 (A := A) (x := x) (sd := sd) (sh := sh) (i := i) (k := k) (N := N) (by omega)
  have b2 := wst_b31 (A := A) (x := x) (sd := sd) (sh := sh) (i := i) (k := k + 1) (N := N) (by omega)
  have hs : sg (cdF T (nI (wst A x sd sh i N (k + 1)).2)) 0 (i + k) = sg (cdF T (nI (wst A x sd sh i N k).2)) 0 (i + k) := by
    refine sg_ext2 _ (fun j hj => ?_)
    unfold cdF
    rw [bit_at b2 (by omega), bit_at b1 (by omega), wst_k 1 k j hj]
  simp only [sg, Nat.zero_add]
  rw [hs]
  unfold cdF
  rw [bit_at b2 (by omega)]
  have hm : (wst A x sd sh i N (k + 1)).2 / 2 ^ (i + k) % 2 = 0 ∨ (wst A x sd sh i N (k + 1)).2 / 2 ^ (i + k) % 2 = 1 := by omega
  rcases hm with e | e
  · rw [e]; rfl
  · rw [e]; rfl
theorem code_0 (h : i ≤ 30) : sg (cdF T (nI (wst A x sd sh i N 0).2)) 0 i = 0 := by
  have : ∀ n, n ≤ 30 → sg (cdF T (nI 0)) 0 n = 0 := by
    intro n
    induction n with
    | zero => intro _; rfl
    | succ n ih =>
      intro hn
      simp only [sg, Nat.zero_add]
      rw [ih (by omega)]
      unfold cdF
      rw [bit_at (by decide) (by omega), Nat.zero_div, if_neg (by decide)]
  exact this i h
theorem CvI.step {S S' S2 : M9} {m : Nat} {ad : Nat → Nat} {Z : Nat → Nat} {v b : Int32} (h : CvI S S' m ad A x sd sh i N Z k) (hv : v = N (i + k)) (hM2 : MS S2 m ad) (hF : Fr S' S2 (fun t a => (t = 40 ∧ a = ad 0) ∨ t = 45) 0 0) (hr : ∀ j, ¬ j = 2 → gI S2 40 (ad 0) j = gI S' 40 (ad 0) j) (hr2 : gI S2 40 (ad 0) 2 = nI (Z (k + 1)))
    (ht : ∀ j, gI S2 45 (ad 17) j = if j = i + k then nI ((wst A x sd sh i N k).1 + aAc A (i + k)) else gI S' 45 (ad 17) j) (hb : b = nI ((wst A x sd sh i N (k + 1)).2 / 2 ^ (i + k) % 2)) :
    CvI S (sI (sI S2 46 (ad 18) (i + k) v) 47 (ad 19) (i + k) b) m ad A x sd sh i N Z (k + 1) := by
  obtain ⟨h1, h2, h3, h4, h5⟩ := h
  obtain ⟨-, -, -, -, -, -, -, -, ⟨-, f2, -⟩, ⟨-, c2, -⟩, -⟩ := h1
  have F3 := Fr.sI S2 46 (ad 18) (i + k) v
  have F4 := Fr.sI (sI S2 46 (ad 18) (i + k) v) 47 (ad 19) (i + k) b
  have e46 := (hF.2.1 46 (ad 18) f2 (fun w => by omega)).1
  have e47 := (hF.2.1 47 (ad 19) c2 (fun w => by omega)).1
  refine ⟨(hM2.fr F3 (by rw [gR_sI])).fr F4 (by rw [gR_sI]), (h2.trans (hF.trans (F3.trans F4))).mono (fun t a _ w => by omega) (by decide) (by decide), fun j hj => ?_, ?_, fun j hj => ⟨?_, ?_, ?_⟩⟩
  · rw [gI_sIk, if_neg (fun w => by omega), gI_sIk, if_neg (fun w => by omega), hr j hj]; exact h3 j hj
  · rw [gI_sIk, if_neg (fun w => by omega), gI_sIk, if_neg (fun w => by omega)]; exact hr2
  · rw [gI_sIk, if_neg (fun w => by omega), gI_sIk, if_neg (fun w => by omega), ht]
    by_cases e : j = k
    · rw [if_pos (by omega), e]
    · rw [if_neg (by omega)]; exact (h5 j (by omega)).1
  · rw [gI_sIk, if_neg (fun w => by omega), gI_sIk]
    by_cases e : j = k
    · rw [if_pos ⟨rfl, rfl, by omega⟩, hv, e]
    · rw [if_neg (fun w => by omega), e46]; exact (h5 j (by omega)).2.1
  · rw [gI_sIk]
    by_cases e : j = k
    · rw [if_pos ⟨rfl, rfl, by omega⟩, hb, e]
    · rw [if_neg (fun w => by omega), gI_sIk, if_neg (fun w => by omega), e47, (h5 j (by omega)).2.2, wst_k 1 k (i + j) (by omega)]
end MSTL
section SPS
variable {ks : Nat → Nat} {d : Nat} {Q : QP} {S : M9} {m : Nat} {ad : Nat → Nat} {C : CSt}
theorem sp_mConv_st (hR : RowR (gI S 40 (ad 0)) 0 C) (hV : SetV (sSet C)) {x sd sh qu v : Int32} {i k : Nat} {N : Nat → Int32} {Z : Nat → Nat} (h20 : gI S 11 m 20 = sd) (h21 : gI S 11 m 21 = sh) (hk : i + k < aWm (sSet C)) (hm0 : m ∈ gL S)
    (ih : ∀ S' y8 g8, CvI S S' m ad (sSet C) x sd sh i N Z (k + 1) → Run ks (WG ks (d + 1)) Q tb_X9_converts 9 [some (.ref m), some (.int x), some (.int (nI i)), some (.int qu), some (.int (nI (wst (sSet C) x sd sh i N (k + 1)).1)), some (.int (nI (sg (cdF (sTab C) (nI (wst (sSet C) x sd sh i N (k + 1)).2)) 0 (i + k + 1)))), some (.int (nI (i + k + 1))), y8, g8] [] S')
    {S' S2 : M9} {g8 : Option Value} (h : CvI S S' m ad (sSet C) x sd sh i N Z k) (hv : v = N (i + k)) (hM2 : MS S2 m ad) (hF : Fr S' S2 (fun t a => (t = 40 ∧ a = ad 0) ∨ t = 45) 0 0) (hr : ∀ j, ¬ j = 2 → gI S2 40 (ad 0) j = gI S' 40 (ad 0) j) (hr2 : gI S2 40 (ad 0) 2 = nI (Z (k + 1)))
    (ht : ∀ j, gI S2 45 (ad 17) j = if j = i + k then nI ((wst (sSet C) x sd sh i N k).1 + aAc (sSet C) (i + k)) else gI S' 45 (ad 17) j) :
    Run ks (WG ks (d + 1)) Q tb_X9_converts 72 [some (.ref m), some (.int x), some (.int (nI i)), some (.int qu), some (.int (nI (wst (sSet C) x sd sh i N k).1)), some (.int (nI (sg (cdF (sTab C) (nI (wst (sSet C) x sd sh i N k).2)) 0 (i + k)))), some (.int (nI (i + k))), some (.int (nI (aUs (sSet C) (i + k)))), g8] [.int v, .int (nI (i + k)), .ref (ad 18)] S2 := by
  have hw10 := hV.2.1.2
  have hu := (hV.2.2.1 (i + k) hk).2.2.2.2
  have hc3 := hV.1.2
  have h11 := (h.2.1.2.1 11 m hm0 (fun w => by omega)).1
  have h11b := (hF.2.1 11 m h.1.1.1 (fun w => by omega)).1
  have htb : gI S2 40 (ad 0) (41 + (i + k)) = nI (sTab C (i + k)) := by
    rw [hr _ (by omega), h.2.2.1 _ (by omega)]
    have := (hR.2.2.1 (i + k) hk).2.2.2
    rw [Nat.zero_add] at this
    exact this
  have hof : gI S2 40 (ad 0) (5 + aUs (sSet C) (i + k)) = aOf (sSet C) (aUs (sSet C) (i + k)) := by
    rw [hr _ (by omega), h.2.2.1 _ (by omega)]
    have := (hR.2.1 _ hu).1
    rw [Nat.zero_add] at this
    exact this
  have hcd := code_st (A := sSet C) (x := x) (sd := sd) (sh := sh) (i := i) (k := k) (N := N) (T := sTab C) (by omega)
  have hbk := wst_b (A := sSet C) (x := x) (sd := sd) (sh := sh) (i := i) (N := N) k
  refine sp_mcv1 (sd := sd) (sh := sh) hM2 (by omega) (by omega) (by rw [ht, if_pos rfl]) htb hof (by rw [h11b, h11]; exact h20) (by rw [h11b, h11]; exact h21) (fun mo => ⟨fun c => ?_, fun c => ?_⟩)
  · have e := wst_ge (A := sSet C) (x := x) (sd := sd) (sh := sh) (N := N) (by rw [← hv]; exact c)
    have e2 : (wst (sSet C) x sd sh i N (k + 1)).2 / 2 ^ (i + k) % 2 = 1 := by rw [e]; exact bit_hi hbk
    rw [e2, if_pos rfl] at hcd
    have hh := ih _ (some (.int (nI (aUs (sSet C) (i + k))))) (some (.int mo)) (h.step hv hM2 hF hr hr2 ht (b := 1) (by rw [e2]; rfl))
    rw [hcd, show (wst (sSet C) x sd sh i N (k + 1)).1 = (wst (sSet C) x sd sh i N k).1 + aAc (sSet C) (i + k) by rw [e]] at hh
    exact hh
  · have e := wst_lt (A := sSet C) (x := x) (sd := sd) (sh := sh) (N := N) (by rw [← hv]; exact c)
    have e2 : (wst (sSet C) x sd sh i N (k + 1)).2 / 2 ^ (i + k) % 2 = 0 := by rw [e]; exact bit_z hbk
    rw [e2, if_neg (by decide), Nat.add_zero] at hcd
    have hh := ih _ (some (.int (nI (aUs (sSet C) (i + k))))) (some (.int mo)) (h.step hv hM2 hF hr hr2 ht (b := 0) (by rw [e2]; rfl))
    rw [hcd, show (wst (sSet C) x sd sh i N (k + 1)).1 = (wst (sSet C) x sd sh i N k).1 by rw [e]] at hh
    exact hh
set_option maxRecDepth 8000 in
theorem sp_mConv_lp (hM : MS S m ad) (hR : RowR (gI S 40 (ad 0)) 0 C) (hV : SetV (sSet C)) {x sd sh qu : Int32} {i : Nat} {N : Nat → Int32} {Z : Nat → Nat} (hz : ∀ k, Z k ≤ 65535) (h20 : gI S 11 m 20 = sd) (h21 : gI S 11 m 21 = sh) (hi : i ≤ aWm (sSet C)) (hq : qu = 0 ∨ qu = 1)
    (hN1 : qu = 1 → ∀ k, i + k < aWm (sSet C) → N (i + k) = 0 ∧ Z (k + 1) = Z k)
    (hN0 : qu = 0 → ∀ k, i + k < aWm (sSet C) → (aAm (sSet C) (aUs (sSet C) (i + k)) = 0 → N (i + k) = 0 ∧ Z (k + 1) = Z k) ∧ (¬ aAm (sSet C) (aUs (sSet C) (i + k)) = 0 → N (i + k) = nzI (nzN (Z k)) (aAm (sSet C) (aUs (sSet C) (i + k))) ∧ Z (k + 1) = nzN (Z k)))
    (h : ∀ S', CvI S S' m ad (sSet C) x sd sh i N Z (aWm (sSet C) - i) → Q (.inl (some (.int (nI (cvC C (nI (wst (sSet C) x sd sh i N (aWm (sSet C) - i)).2)))))) S') :
    ∀ r k S' y8 g8, k + r = aWm (sSet C) - i → CvI S S' m ad (sSet C) x sd sh i N Z k →
      Run ks (WG ks (d + 1)) Q tb_X9_converts 9 [some (.ref m), some (.int x), some (.int (nI i)), some (.int qu), some (.int (nI (wst (sSet C) x sd sh i N k).1)), some (.int (nI (sg (cdF (sTab C) (nI (wst (sSet C) x sd sh i N k).2)) 0 (i + k)))), some (.int (nI (i + k))), y8, g8] [] S' := by
  have hw10 := hV.2.1.2
  have hm0 := hM.1.1
  have c1 : Int32.toNatClampNeg 1 = 1 := by decide
  intro r
  induction r with
  | zero =>
    intro k S' y8 g8 hk hI
    have e : k = aWm (sSet C) - i := by omega
    subst e
    have hIc := hI
    obtain ⟨⟨⟨m1, m2⟩, ⟨a1, a2, a3, a4⟩, -⟩, -, hrow, -⟩ := hIc
    have hR1 : gI S' 40 (ad 0) 1 = nI (aWm (sSet C)) := by rw [hrow 1 (by decide)]; exact hR.1.2.1
    rw [e_X9_converts_9]
    simp only [e_X9_converts_0, e_X9_converts_1, e_X9_converts_3, e_X9_converts_4, e_X9_converts_6, e_X9_converts_7, e_X9_converts_11, e_X9_converts_12, e_X9_converts_15, e_X9_converts_16, e_X9_converts_17, e_X9_converts_20, e_X9_converts_21, e_X9_converts_24, e_X9_converts_26, e_X9_converts_28, e_X9_converts_29, e_X9_converts_30, e_X9_converts_32, e_X9_converts_33, e_X9_converts_36, e_X9_converts_38, e_X9_converts_40, e_X9_converts_41, e_X9_converts_44, e_X9_converts_46, e_X9_converts_48, e_X9_converts_49, e_X9_converts_50, e_X9_converts_51, e_X9_converts_52, e_X9_converts_53, e_X9_converts_56, e_X9_converts_58, e_X9_converts_59, e_X9_converts_62, e_X9_converts_63, e_X9_converts_66, e_X9_converts_67, e_X9_converts_69, e_X9_converts_72, e_X9_converts_73, e_X9_converts_75, e_X9_converts_76, e_X9_converts_79, e_X9_converts_82, e_X9_converts_83, e_X9_converts_86, e_X9_converts_89, e_X9_converts_90, e_X9_converts_92, e_X9_converts_93, e_X9_converts_96, e_X9_converts_98, e_X9_converts_99, e_X9_converts_100, e_X9_converts_103, e_X9_converts_104, e_X9_converts_106, e_X9_converts_107, e_X9_converts_108, e_X9_converts_109, e_X9_converts_111, e_X9_converts_112, e_X9_converts_113, e_X9_converts_116, e_X9_converts_118, e_X9_converts_119, e_X9_converts_120, e_X9_converts_121, e_X9_converts_124, e_X9_converts_126, e_X9_converts_127, e_X9_converts_130, e_X9_converts_131, e_X9_converts_134, e_X9_converts_135, e_X9_converts_136, e_X9_converts_137, e_X9_converts_140, e_X9_converts_142, e_X9_converts_143, e_X9_converts_144, e_X9_converts_147, e_X9_converts_148, e_X9_converts_151, e_X9_converts_153, e_X9_converts_154, e_X9_converts_157, e_X9_converts_159, e_X9_converts_161, e_X9_converts_163, e_X9_converts_164, e_X9_converts_167, e_X9_converts_169, e_X9_converts_170, e_X9_converts_171, e_X9_converts_174, e_X9_converts_176, e_X9_converts_178, e_X9_converts_179, e_X9_converts_180, e_X9_converts_181, e_X9_converts_182, e_X9_converts_184, e_X9_converts_187, e_X9_converts_190, e_X9_converts_192, o_const, o_iload, o_aload, o_fload, o_dload, o_istore, o_astore, o_fstore, o_dstore, o_iinc, o_bin, o_div, o_un, o_i2l, o_i2f, o_i2d, o_f2d, o_fdiv, o_ddiv, o_lcmp, o_fcmp, o_dcmp, o_if, o_if2, o_goto, o_dup, o_dupx1, o_dup2, o_pop, o_getI, o_getR, o_putI, o_putR, o_iald, o_iast, o_bald, o_bast, o_zald, o_zast, o_aald, o_aast, o_jald, o_jast, o_dald, o_dast, o_alen, o_castA, o_new, o_newa, o_callv, o_callvN, o_calli, o_calls, o_objinit, o_iret, o_zret, o_fret, o_dret, o_aret, o_vret, o_throw, o_acopy, o_bcopy, o_clone, o_tsw, o_ldcS, o_kval, o_kcoder, o_klen, o_kald, o_tald, o_getSq, o_callk, o_callvH, gl, stl, stl2, pre2, va_rf, Value.category, catS, List.length_cons, List.length_nil, List.map_cons, List.map_nil, List.sum_cons, List.sum_nil, List.take_succ_cons, List.take_zero, List.drop_succ_cons, List.drop_zero, List.reverse_cons, List.reverse_nil, List.nil_append, List.cons_append, true_and, and_true, if_true, Nat.reduceAdd, Nat.reduceLT, Nat.reduceLeDiff, m1, m2, a1, a2, a3, a4, c1, hR1]
    rw [show i + (aWm (sSet C) - i) = aWm (sSet C) by omega]
    exact ⟨vp_in_nI (n := 1) (by decide) (by decide), fun _ => h S' hI, fun c => absurd (nI_le (Nat.le_refl _) (by omega)) c⟩
  | succ r ihr =>
    intro k S' y8 g8 hk hI
    have ih := fun S' y8 g8 => ihr (k + 1) S' y8 g8 (by omega)
    have hIc := hI
    obtain ⟨hM', hF', hrow, hr2, -⟩ := hIc
    have hMc := hM'
    obtain ⟨⟨m1, m2⟩, ⟨a1, a2, a3, a4⟩, -, -, -, -, -, ⟨b1, b2, b3, b4⟩, ⟨f1, f2, f3, f4⟩, -⟩ := hMc
    have hik : i + k < aWm (sSet C) := by omega
    have hu := (hV.2.2.1 (i + k) hik).2.2.2.2
    have hc3 := hV.1.2
    have hR1 : gI S' 40 (ad 0) 1 = nI (aWm (sSet C)) := by rw [hrow 1 (by decide)]; exact hR.1.2.1
    have r3 := hR.2.2.1 (i + k) hik
    simp only [Nat.zero_add] at r3
    have h31 : gI S' 40 (ad 0) (31 + (i + k)) = nI (aUs (sSet C) (i + k)) := by rw [hrow _ (by omega)]; exact r3.2.2.1
    have h21' : gI S' 40 (ad 0) (21 + (i + k)) = nI (aAc (sSet C) (i + k)) := by rw [hrow _ (by omega)]; exact r3.2.1
    have e31 : (31 : Int32) + nI (i + k) = nI (31 + (i + k)) := by rw [show (31 : Int32) = nI 31 from rfl, nI_add]
    have e21 : (21 : Int32) + nI (i + k) = nI (21 + (i + k)) := by rw [show (21 : Int32) = nI 21 from rfl, nI_add]
    have q31 : (nI (31 + (i + k))).toNatClampNeg = 31 + (i + k) := nI_clamp (by omega)
    have q21 : (nI (21 + (i + k))).toNatClampNeg = 21 + (i + k) := nI_clamp (by omega)
    have q0 : (nI (i + k)).toNatClampNeg = i + k := nI_clamp (by omega)
    have v10 : vp_in (nI (i + k)) 10 := vp_in_nI (by omega) (by decide)
    have v31 : vp_in (nI (31 + (i + k))) 21153 := vp_in_nI (by omega) (by decide)
    have v21 : vp_in (nI (21 + (i + k))) 21153 := vp_in_nI (by omega) (by decide)
    have F1 := Fr.sI S' 45 (ad 17) (i + k) (nI ((wst (sSet C) x sd sh i N k).1 + aAc (sSet C) (i + k)))
    have hM1 := hM'.fr F1 (by rw [gR_sI])
    have ht1 : ∀ j, gI (sI S' 45 (ad 17) (i + k) (nI ((wst (sSet C) x sd sh i N k).1 + aAc (sSet C) (i + k)))) 45 (ad 17) j = if j = i + k then nI ((wst (sSet C) x sd sh i N k).1 + aAc (sSet C) (i + k)) else gI S' 45 (ad 17) j := fun j => by
      rw [gI_sIk]
      by_cases e : j = i + k
      · rw [if_pos ⟨rfl, rfl, e⟩, if_pos e]
      · rw [if_neg (fun w => e w.2.2), if_neg e]
    rw [e_X9_converts_9]
    rcases hq with rfl | rfl
    · simp only [e_X9_converts_0, e_X9_converts_1, e_X9_converts_3, e_X9_converts_4, e_X9_converts_6, e_X9_converts_7, e_X9_converts_11, e_X9_converts_12, e_X9_converts_15, e_X9_converts_16, e_X9_converts_17, e_X9_converts_20, e_X9_converts_21, e_X9_converts_24, e_X9_converts_26, e_X9_converts_28, e_X9_converts_29, e_X9_converts_30, e_X9_converts_32, e_X9_converts_33, e_X9_converts_36, e_X9_converts_38, e_X9_converts_40, e_X9_converts_41, e_X9_converts_44, e_X9_converts_46, e_X9_converts_48, e_X9_converts_49, e_X9_converts_50, e_X9_converts_51, e_X9_converts_52, e_X9_converts_53, e_X9_converts_56, e_X9_converts_58, e_X9_converts_59, e_X9_converts_62, e_X9_converts_63, e_X9_converts_66, e_X9_converts_67, e_X9_converts_69, e_X9_converts_73, e_X9_converts_75, e_X9_converts_76, e_X9_converts_79, e_X9_converts_82, e_X9_converts_83, e_X9_converts_86, e_X9_converts_89, e_X9_converts_90, e_X9_converts_92, e_X9_converts_93, e_X9_converts_96, e_X9_converts_98, e_X9_converts_99, e_X9_converts_100, e_X9_converts_103, e_X9_converts_104, e_X9_converts_106, e_X9_converts_107, e_X9_converts_108, e_X9_converts_109, e_X9_converts_111, e_X9_converts_112, e_X9_converts_113, e_X9_converts_116, e_X9_converts_118, e_X9_converts_119, e_X9_converts_120, e_X9_converts_121, e_X9_converts_124, e_X9_converts_126, e_X9_converts_127, e_X9_converts_130, e_X9_converts_131, e_X9_converts_134, e_X9_converts_135, e_X9_converts_136, e_X9_converts_137, e_X9_converts_140, e_X9_converts_142, e_X9_converts_143, e_X9_converts_144, e_X9_converts_147, e_X9_converts_148, e_X9_converts_151, e_X9_converts_153, e_X9_converts_154, e_X9_converts_157, e_X9_converts_159, e_X9_converts_161, e_X9_converts_163, e_X9_converts_164, e_X9_converts_167, e_X9_converts_169, e_X9_converts_170, e_X9_converts_171, e_X9_converts_174, e_X9_converts_176, e_X9_converts_178, e_X9_converts_179, e_X9_converts_180, e_X9_converts_181, e_X9_converts_182, e_X9_converts_184, e_X9_converts_187, e_X9_converts_190, e_X9_converts_192, o_const, o_iload, o_aload, o_fload, o_dload, o_istore, o_astore, o_fstore, o_dstore, o_iinc, o_bin, o_div, o_un, o_i2l, o_i2f, o_i2d, o_f2d, o_fdiv, o_ddiv, o_lcmp, o_fcmp, o_dcmp, o_if, o_if2, o_goto, o_dup, o_dupx1, o_dup2, o_pop, o_getI, o_getR, o_putI, o_putR, o_iald, o_iast, o_bald, o_bast, o_zald, o_zast, o_aald, o_aast, o_jald, o_jast, o_dald, o_dast, o_alen, o_castA, o_new, o_newa, o_callv, o_callvN, o_calli, o_calls, o_objinit, o_iret, o_zret, o_fret, o_dret, o_aret, o_vret, o_throw, o_acopy, o_bcopy, o_clone, o_tsw, o_ldcS, o_kval, o_kcoder, o_klen, o_kald, o_tald, o_getSq, o_callk, o_callvH, gl, stl, stl2, pre2, va_rf, Value.category, catS, List.length_cons, List.length_nil, List.map_cons, List.map_nil, List.sum_cons, List.sum_nil, List.take_succ_cons, List.take_zero, List.drop_succ_cons, List.drop_zero, List.reverse_cons, List.reverse_nil, List.nil_append, List.cons_append, true_and, and_true, if_true, Nat.reduceAdd, Nat.reduceLT, Nat.reduceLeDiff, m1, m2, a1, a2, a3, a4, b1, b2, b3, b4, f1, f2, f3, f4, c1, hR1, e31, e21, q31, q21, q0, h31, h21', v10, v31, v21, nI_add, gL_sW, gL_sI, gL_sR, gL_sC, gL_nW, gK_sW, gK_sI, gK_sR, gK_sC, gK_nW, gN_sW, gN_sI, gN_sR, gN_sC, gN_nW, gC_sW, gC_sI, gC_sR, gC_sC, gC_nW, gZ_sW, gZ_sI, gZ_sR, gZ_sC, gZ_nW, gR_sI]
      refine ⟨vp_in_nI (n := 1) (by decide) (by decide), fun c => absurd ((nI_leI (by omega) (by omega)).mp c) (by omega), fun _ => ⟨fun _ => ?_, fun c => absurd (by decide) c⟩⟩
      obtain ⟨k0, k1⟩ := hN0 rfl k hik
      have ga : gI (sI S' 45 (ad 17) (i + k) (nI ((wst (sSet C) x sd sh i N k).1 + aAc (sSet C) (i + k)))) 40 (ad 0) (8 + aUs (sSet C) (i + k)) = nI (aAm (sSet C) (aUs (sSet C) (i + k))) := by
        rw [gI_sIk, if_neg (fun w => by omega), hrow _ (by omega)]
        have := (hR.2.1 _ hu).2
        rw [Nat.zero_add] at this
        exact this
      refine ⟨⟨m, _, rfl, rfl, m1, m2⟩, sp_mDraws hM1 (by omega) (hV.2.2.2.1 _ hu).1 (hz k) ga (by rw [gI_sIk, if_neg (fun w => by omega)]; exact hr2) (fun c => ?_) (fun c => ?_)⟩
      · simp only [behind]
        obtain ⟨k2, k3⟩ := k0 c
        exact sp_mConv_st hR hV h20 h21 hik hm0 ih hI k2.symm hM1 (F1.mono (fun t a _ w => Or.inr w.1) (by decide) (by decide)) (fun j hj => by rw [gI_sIk, if_neg (fun w => by omega)]) (by rw [gI_sIk, if_neg (fun w => by omega), k3]; exact hr2) ht1
      · simp only [behind]
        obtain ⟨k2, k3⟩ := k1 c
        have F2 := Fr.sI (sI S' 45 (ad 17) (i + k) (nI ((wst (sSet C) x sd sh i N k).1 + aAc (sSet C) (i + k)))) 40 (ad 0) 2 (nI (nzN (Z k)))
        exact sp_mConv_st hR hV h20 h21 hik hm0 ih hI k2.symm (hM1.fr F2 (by rw [gR_sI])) ((F1.trans F2).mono (fun t a _ w => by omega) (by decide) (by decide)) (fun j hj => by rw [gI_sIk, if_neg (fun w => by omega), gI_sIk, if_neg (fun w => by omega)]) (by rw [gI_sIk, if_pos ⟨rfl, rfl, rfl⟩, k3]) (fun j => by rw [gI_sIk, if_neg (fun w => by omega)]; exact ht1 j)
    · simp only [e_X9_converts_0, e_X9_converts_1, e_X9_converts_3, e_X9_converts_4, e_X9_converts_6, e_X9_converts_7, e_X9_converts_11, e_X9_converts_12, e_X9_converts_15, e_X9_converts_16, e_X9_converts_17, e_X9_converts_20, e_X9_converts_21, e_X9_converts_24, e_X9_converts_26, e_X9_converts_28, e_X9_converts_29, e_X9_converts_30, e_X9_converts_32, e_X9_converts_33, e_X9_converts_36, e_X9_converts_38, e_X9_converts_40, e_X9_converts_41, e_X9_converts_44, e_X9_converts_46, e_X9_converts_48, e_X9_converts_49, e_X9_converts_50, e_X9_converts_51, e_X9_converts_52, e_X9_converts_53, e_X9_converts_56, e_X9_converts_58, e_X9_converts_59, e_X9_converts_62, e_X9_converts_63, e_X9_converts_66, e_X9_converts_67, e_X9_converts_69, e_X9_converts_73, e_X9_converts_75, e_X9_converts_76, e_X9_converts_79, e_X9_converts_82, e_X9_converts_83, e_X9_converts_86, e_X9_converts_89, e_X9_converts_90, e_X9_converts_92, e_X9_converts_93, e_X9_converts_96, e_X9_converts_98, e_X9_converts_99, e_X9_converts_100, e_X9_converts_103, e_X9_converts_104, e_X9_converts_106, e_X9_converts_107, e_X9_converts_108, e_X9_converts_109, e_X9_converts_111, e_X9_converts_112, e_X9_converts_113, e_X9_converts_116, e_X9_converts_118, e_X9_converts_119, e_X9_converts_120, e_X9_converts_121, e_X9_converts_124, e_X9_converts_126, e_X9_converts_127, e_X9_converts_130, e_X9_converts_131, e_X9_converts_134, e_X9_converts_135, e_X9_converts_136, e_X9_converts_137, e_X9_converts_140, e_X9_converts_142, e_X9_converts_143, e_X9_converts_144, e_X9_converts_147, e_X9_converts_148, e_X9_converts_151, e_X9_converts_153, e_X9_converts_154, e_X9_converts_157, e_X9_converts_159, e_X9_converts_161, e_X9_converts_163, e_X9_converts_164, e_X9_converts_167, e_X9_converts_169, e_X9_converts_170, e_X9_converts_171, e_X9_converts_174, e_X9_converts_176, e_X9_converts_178, e_X9_converts_179, e_X9_converts_180, e_X9_converts_181, e_X9_converts_182, e_X9_converts_184, e_X9_converts_187, e_X9_converts_190, e_X9_converts_192, o_const, o_iload, o_aload, o_fload, o_dload, o_istore, o_astore, o_fstore, o_dstore, o_iinc, o_bin, o_div, o_un, o_i2l, o_i2f, o_i2d, o_f2d, o_fdiv, o_ddiv, o_lcmp, o_fcmp, o_dcmp, o_if, o_if2, o_goto, o_dup, o_dupx1, o_dup2, o_pop, o_getI, o_getR, o_putI, o_putR, o_iald, o_iast, o_bald, o_bast, o_zald, o_zast, o_aald, o_aast, o_jald, o_jast, o_dald, o_dast, o_alen, o_castA, o_new, o_newa, o_callv, o_callvN, o_calli, o_calls, o_objinit, o_iret, o_zret, o_fret, o_dret, o_aret, o_vret, o_throw, o_acopy, o_bcopy, o_clone, o_tsw, o_ldcS, o_kval, o_kcoder, o_klen, o_kald, o_tald, o_getSq, o_callk, o_callvH, gl, stl, stl2, pre2, va_rf, Value.category, catS, List.length_cons, List.length_nil, List.map_cons, List.map_nil, List.sum_cons, List.sum_nil, List.take_succ_cons, List.take_zero, List.drop_succ_cons, List.drop_zero, List.reverse_cons, List.reverse_nil, List.nil_append, List.cons_append, true_and, and_true, if_true, Nat.reduceAdd, Nat.reduceLT, Nat.reduceLeDiff, m1, m2, a1, a2, a3, a4, b1, b2, b3, b4, f1, f2, f3, f4, c1, hR1, e31, e21, q31, q21, q0, h31, h21', v10, v31, v21, nI_add, gL_sW, gL_sI, gL_sR, gL_sC, gL_nW, gK_sW, gK_sI, gK_sR, gK_sC, gK_nW, gN_sW, gN_sI, gN_sR, gN_sC, gN_nW, gC_sW, gC_sI, gC_sR, gC_sC, gC_nW, gZ_sW, gZ_sI, gZ_sR, gZ_sC, gZ_nW, gR_sI]
      refine ⟨vp_in_nI (n := 1) (by decide) (by decide), fun c => absurd ((nI_leI (by omega) (by omega)).mp c) (by omega), fun _ => ⟨fun c => absurd c (by decide), fun _ => ?_⟩⟩
      obtain ⟨k2, k3⟩ := hN1 rfl k hik
      exact sp_mConv_st hR hV h20 h21 hik hm0 ih hI k2.symm hM1 (F1.mono (fun t a _ w => Or.inr w.1) (by decide) (by decide)) (fun j hj => by rw [gI_sIk, if_neg (fun w => by omega)]) (by rw [gI_sIk, if_neg (fun w => by omega), k3]; exact hr2) ht1
end SPS
