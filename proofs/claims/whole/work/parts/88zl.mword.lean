/-! THE MODEL: what the reader holds; words, signs, numbers -/
theorem ltF_eq {T : Nat → Int32} : ∀ l r k, l ≤ r → (∀ j, j < l → isL (T (k + j))) → (l = r ∨ ¬ isL (T (k + l))) → ltF T r k = k + l := by
  intro l
  induction l with
  | zero =>
    intro r k _ _ h
    cases r with
    | zero => rfl
    | succ r =>
      simp only [ltF]
      rcases h with h | h
      · exact absurd h (by omega)
      · rw [Nat.add_zero] at h ⊢
        exact if_neg h
  | succ l ih =>
    intro r k hl h1 h2
    cases r with
    | zero => exact absurd hl (by omega)
    | succ r =>
      simp only [ltF]
      have h0 := h1 0 (by omega)
      rw [Nat.add_zero] at h0
      rw [if_pos h0, ih r (k + 1) (by omega) (fun j hj => by have := h1 (j + 1) (by omega); rw [show k + (j + 1) = k + 1 + j by omega] at this; exact this) (by
        rcases h2 with h2 | h2
        · exact Or.inl (by omega)
        · exact Or.inr (by rw [show k + 1 + l = k + (l + 1) by omega]; exact h2))]
      omega
theorem ltF_end {T : Nat → Int32} : ∀ r k, ltF T r k = k + r ∨ ¬ isL (T (ltF T r k)) := by
  intro r
  induction r with
  | zero => intro k; exact Or.inl rfl
  | succ r ih =>
    intro k
    simp only [ltF]
    by_cases c : isL (T k)
    · rw [if_pos c]
      rcases ih (k + 1) with h | h
      · exact Or.inl (by omega)
      · exact Or.inr h
    · rw [if_neg c]; exact Or.inr c
theorem kByt_L : ∀ i, i < 3 → ∀ j, j < kLen.getD i 0 → isL ((kByt.getD i []).getD j 0) := by decide +kernel
theorem kLen_pos : ∀ i, i < 3 → 0 < kLen.getD i 0 := by decide
theorem wrd_lt {T : Nat → Int32} {n i p : Nat} (hi : i < 3) (h : wrd T n i p) : p < n ∧ isL (T p) ∧ ltF T (n - p) p = p + kLen.getD i 0 := by
  have h0 := kLen_pos i hi
  have hle := wrd_le hi h
  have hb : ∀ j, j < kLen.getD i 0 → isL (T (p + j)) := fun j hj => by
    have e := h.1 j hj
    rw [show byI T n (p + j) = T (p + j) from if_pos (by omega)] at e
    rw [e]; exact kByt_L i hi j hj
  refine ⟨by omega, hb 0 h0, ltF_eq _ _ _ (by omega) hb ?_⟩
  by_cases c : p + kLen.getD i 0 = n
  · exact Or.inl (by omega)
  · refine Or.inr ?_
    have e := h.2
    rw [show byI T n (p + kLen.getD i 0) = T (p + kLen.getD i 0) from if_pos (by omega)] at e
    exact e
theorem wrd_of {T : Nat → Int32} {n i p : Nat} (hp : p ≤ n) (h1 : ltF T (n - p) p = p + kLen.getD i 0) (h2 : ∀ j, j < kLen.getD i 0 → T (p + j) = (kByt.getD i []).getD j 0) : wrd T n i p := by
  have hl := ltF_le (T := T) (n - p) p
  refine ⟨fun j hj => ?_, ?_⟩
  · rw [show byI T n (p + j) = T (p + j) from if_pos (by omega)]; exact h2 j hj
  · rcases ltF_end (T := T) (n - p) p with h | h
    · rw [show byI T n (p + kLen.getD i 0) = -1 from if_neg (by omega)]; decide
    · rw [h1] at h
      by_cases c : p + kLen.getD i 0 < n
      · rw [show byI T n (p + kLen.getD i 0) = T (p + kLen.getD i 0) from if_pos c]; exact h
      · rw [show byI T n (p + kLen.getD i 0) = -1 from if_neg c]; decide
theorem dg_z {T : Nat → Int32} {n p : Nat} : ((dgF T (n - p) p 0).1 = p ↔ ¬ (p < n ∧ isD (T p))) := by
  by_cases c : p < n ∧ isD (T p)
  · have : (dgF T (n - p) p 0).1 ≥ p + 1 := by
      rw [show n - p = (n - p - 1) + 1 from by omega]
      simp only [dgF]
      rw [if_pos c.2]
      exact (dgF_le T _ _ _).1
    exact ⟨fun e => absurd e (by omega), fun e => absurd c e⟩
  · refine ⟨fun _ => c, fun _ => ?_⟩
    by_cases h : p < n
    · rw [show n - p = (n - p - 1) + 1 from by omega]
      simp only [dgF]
      rw [if_neg (fun w => c ⟨h, w⟩)]
    · rw [show n - p = 0 from by omega]; rfl
section TKL
variable {S : M9} {m n p : Nat} {T : Nat → Int32}
theorem TokI.dig (h : TokI S m T n p) : (p < n ∧ isD (T p) → gI S 11 m 12 = 1 ∧ gI S 11 m 11 = nI (dgF T (n - p) p 0).1 ∧ ∃ c, gI S 11 m 13 = nI c ∧ okN c (dgF T (n - p) p 0).2) ∧ (¬ (p < n ∧ isD (T p)) → ¬ gI S 11 m 12 = 1) := by
  obtain ⟨h1, h2, h3, h4⟩ := h
  refine ⟨fun c => ?_, fun c => ?_⟩
  · obtain ⟨k1, k2, k3⟩ := h4 c.1
    have nl : ¬ isL (T p) := fun w => isLD w c.2
    exact ⟨k1.trans ((if_neg nl).trans (if_pos c.2)), k2.trans (congrArg nI ((if_neg nl).trans (if_pos c.2))), k3 c.2⟩
  · by_cases e : p < n
    · rw [(h4 e).1]
      unfold tkK
      by_cases l : isL (T p)
      · rw [if_pos l]; decide
      · rw [if_neg l, if_neg (fun w => c ⟨e, w⟩)]; decide
    · rw [(h3 (by omega)).1]; decide
theorem TokI.let (h : TokI S m T n p) : (p < n ∧ isL (T p) → gI S 11 m 12 = 0 ∧ gI S 11 m 11 = nI (ltF T (n - p) p)) ∧ (¬ (p < n ∧ isL (T p)) → ¬ gI S 11 m 12 = 0) := by
  obtain ⟨h1, h2, h3, h4⟩ := h
  refine ⟨fun c => ?_, fun c => ?_⟩
  · obtain ⟨k1, k2, k3⟩ := h4 c.1
    exact ⟨k1.trans (if_pos c.2), k2.trans (congrArg nI (if_pos c.2))⟩
  · by_cases e : p < n
    · rw [(h4 e).1]
      unfold tkK
      rw [if_neg (fun w => c ⟨e, w⟩)]
      split <;> decide
    · rw [(h3 (by omega)).1]; decide
theorem TokI.sgn (h : TokI S m T n p) : (p < n ∧ ¬ isL (T p) ∧ ¬ isD (T p) → gI S 11 m 12 = 2 ∧ gI S 11 m 11 = nI (p + 1)) ∧ (¬ (p < n ∧ ¬ isL (T p) ∧ ¬ isD (T p)) → ¬ gI S 11 m 12 = 2) := by
  obtain ⟨h1, h2, h3, h4⟩ := h
  refine ⟨fun c => ?_, fun c => ?_⟩
  · obtain ⟨k1, k2, k3⟩ := h4 c.1
    exact ⟨k1.trans ((if_neg c.2.1).trans (if_neg c.2.2)), k2.trans (congrArg nI ((if_neg c.2.1).trans (if_neg c.2.2)))⟩
  · by_cases e : p < n
    · rw [(h4 e).1]
      unfold tkK
      by_cases l : isL (T p)
      · rw [if_pos l]; decide
      · rw [if_neg l]
        by_cases g : isD (T p)
        · rw [if_pos g]; decide
        · exact absurd ⟨e, l, g⟩ c
    · rw [(h3 (by omega)).1]; decide
theorem TokI.fin (h : TokI S m T n p) : gI S 11 m 12 = 3 ↔ p = n := by
  obtain ⟨h1, h2, h3, h4⟩ := h
  constructor
  · intro e
    by_cases c : p < n
    · rw [(h4 c).1] at e
      unfold tkK at e
      by_cases l : isL (T p)
      · rw [if_pos l] at e; exact absurd e (by decide)
      · rw [if_neg l] at e
        by_cases g : isD (T p)
        · rw [if_pos g] at e; exact absurd e (by decide)
        · rw [if_neg g] at e; exact absurd e (by decide)
    · omega
  · intro e; exact (h3 e).1
end TKL
def RdS (S S' : M9) (m : Nat) (ad : Nat → Nat) (A : ASet) : Prop := MS S' m ad ∧ (∀ j, ¬ (10 ≤ j ∧ j ≤ 15) → gI S' 11 m j = gI S 11 m j) ∧ Fr S S' (fun t a => (t = 11 ∧ a = m) ∨ (t = 42 ∧ a = ad 2)) 0 0 ∧ FrR (gI S' 42 (ad 2)) A
def GdS (S : M9) (m : Nat) (T : Nat → Int32) (n p : Nat) : Prop := gI S 11 m 14 = 0 ∧ TokI S m T n p ∧ skp T n p = p
def BdS (S : M9) (m : Nat) (c : Int32) (q : Nat) : Prop := gI S 11 m 14 = c ∧ ¬ c = 0 ∧ gI S 11 m 15 = nI q
section RDL
variable {S S' S2 : M9} {m n p : Nat} {ad : Nat → Nat} {T : Nat → Int32} {A : ASet}
theorem RdS.nx (h : RdS S S' m ad A) (hI : NxI S' S2 m ad) : RdS S S2 m ad A := by
  obtain ⟨h1, h2, h3, h4⟩ := h
  obtain ⟨i1, i2, i3⟩ := hI
  have e := (i3.2.1 42 (ad 2) h1.2.2.2.1.2.1 (fun w => by omega)).1
  exact ⟨i1, fun j hj => (i2 j (by omega)).trans (h2 j hj), (h3.trans i3).mono (fun t a _ w => by omega) (by decide) (by decide), by rw [e]; exact h4⟩
theorem RdS.put (h : RdS S S' m ad A) {j : Nat} {v : Int32} (hj : 10 ≤ j ∧ j ≤ 15) : RdS S (sI S' 11 m j v) m ad A := by
  obtain ⟨h1, h2, h3, h4⟩ := h
  have F := Fr.sI S' 11 m j v
  have e := (F.2.1 42 (ad 2) h1.2.2.2.1.2.1 (fun w => by omega)).1
  exact ⟨h1.fr F (by rw [gR_sI]), fun i hi => by rw [gI_sIk, if_neg (fun w => by omega)]; exact h2 i hi, (h3.trans F).mono (fun t a _ w => by omega) (by decide) (by decide), by rw [e]; exact h4⟩
theorem Txt.rd (h : Txt S m ad T n) (hM : MS S m ad) (hI : RdS S S' m ad A) : Txt S' m ad T n := by
  obtain ⟨h1, h2, h3⟩ := h
  obtain ⟨i1, i2, i3, i4⟩ := hI
  have e := (i3.2.1 44 (ad 7) hM.2.2.2.2.2.2.1.2.1 (fun w => by omega)).1
  exact ⟨h1, by rw [i2 9 (by decide)]; exact h2, by rw [e]; exact h3⟩
end RDL
section SPS
variable {ks : Nat → Nat} {d : Nat} {Q : QP} {S S' : M9} {m n p : Nat} {ad : Nat → Nat} {T : Nat → Int32} {A : ASet}
theorem sp_rFailG (hI : RdS S S' m ad A) (hG : GdS S' m T n p) {c : Int32} (hc : ¬ c = 0) (h : ∀ S2, RdS S S2 m ad A → BdS S2 m c p → Q (.inl none) S2) : WG ks (d + 1) n_X9_fails [.ref m, .int c] S' Q := by
  refine ⟨by simp [cat1, Value.category], by show (2 : Nat) ≤ 2; decide, ?_⟩
  show Run ks (WG ks d) Q tb_X9_fails 0 [some (.ref m), some (.int c)] [] S'
  have hm := hI.1.1
  obtain ⟨g1, ⟨-, g2, -⟩, -⟩ := hG
  simp only [e_X9_fails_0, e_X9_fails_1, e_X9_fails_4, e_X9_fails_7, e_X9_fails_8, e_X9_fails_9, e_X9_fails_10, e_X9_fails_13, e_X9_fails_14, e_X9_fails_15, e_X9_fails_18, e_X9_fails_21, o_const, o_iload, o_aload, o_fload, o_dload, o_istore, o_astore, o_fstore, o_dstore, o_iinc, o_bin, o_div, o_un, o_i2l, o_i2f, o_i2d, o_f2d, o_fdiv, o_ddiv, o_lcmp, o_fcmp, o_dcmp, o_if, o_if2, o_goto, o_dup, o_dupx1, o_dup2, o_pop, o_getI, o_getR, o_putI, o_putR, o_iald, o_iast, o_bald, o_bast, o_zald, o_zast, o_aald, o_aast, o_jald, o_jast, o_dald, o_dast, o_alen, o_castA, o_new, o_newa, o_callv, o_callvN, o_calli, o_calls, o_objinit, o_iret, o_zret, o_fret, o_dret, o_aret, o_vret, o_throw, o_acopy, o_bcopy, o_clone, o_tsw, o_ldcS, o_kval, o_kcoder, o_klen, o_kald, o_tald, o_getSq, o_callk, o_callvH, gl, stl, stl2, pre2, va_rf, Value.category, catS, List.length_cons, List.length_nil, List.map_cons, List.map_nil, List.sum_cons, List.sum_nil, List.take_succ_cons, List.take_zero, List.drop_succ_cons, List.drop_zero, List.reverse_cons, List.reverse_nil, List.nil_append, List.cons_append, true_and, and_true, if_true, Nat.reduceAdd, Nat.reduceLT, Nat.reduceLeDiff, hm, g1, gL_sW, gL_sI, gL_sR, gL_sC, gL_nW, gK_sW, gK_sI, gK_sR, gK_sC, gK_nW, gN_sW, gN_sI, gN_sR, gN_sC, gN_nW, gC_sW, gC_sI, gC_sR, gC_sC, gC_nW, gZ_sW, gZ_sI, gZ_sR, gZ_sC, gZ_nW, narI, gR_sI, gI_sIk, Nat.reduceEqDiff, false_and, and_false, if_false, and_self, g2]
  exact ⟨fun _ => h _ ((hI.put (by decide)).put (by decide)) ⟨by rw [gI_sIk, if_neg (fun w => by omega), gI_sIk, if_pos ⟨rfl, rfl, rfl⟩], hc, by rw [gI_sIk, if_pos ⟨rfl, rfl, rfl⟩]⟩, fun z => absurd (by decide) z⟩
theorem sp_rFailB (hI : RdS S S' m ad A) {c : Int32} {q : Nat} (hB : BdS S' m c q) {c2 : Int32} (h : Q (.inl none) S') : WG ks (d + 1) n_X9_fails [.ref m, .int c2] S' Q := by
  refine ⟨by simp [cat1, Value.category], by show (2 : Nat) ≤ 2; decide, ?_⟩
  show Run ks (WG ks d) Q tb_X9_fails 0 [some (.ref m), some (.int c2)] [] S'
  have hm := hI.1.1
  obtain ⟨b1, b2, -⟩ := hB
  simp only [e_X9_fails_0, e_X9_fails_1, e_X9_fails_4, e_X9_fails_7, e_X9_fails_8, e_X9_fails_9, e_X9_fails_10, e_X9_fails_13, e_X9_fails_14, e_X9_fails_15, e_X9_fails_18, e_X9_fails_21, o_const, o_iload, o_aload, o_fload, o_dload, o_istore, o_astore, o_fstore, o_dstore, o_iinc, o_bin, o_div, o_un, o_i2l, o_i2f, o_i2d, o_f2d, o_fdiv, o_ddiv, o_lcmp, o_fcmp, o_dcmp, o_if, o_if2, o_goto, o_dup, o_dupx1, o_dup2, o_pop, o_getI, o_getR, o_putI, o_putR, o_iald, o_iast, o_bald, o_bast, o_zald, o_zast, o_aald, o_aast, o_jald, o_jast, o_dald, o_dast, o_alen, o_castA, o_new, o_newa, o_callv, o_callvN, o_calli, o_calls, o_objinit, o_iret, o_zret, o_fret, o_dret, o_aret, o_vret, o_throw, o_acopy, o_bcopy, o_clone, o_tsw, o_ldcS, o_kval, o_kcoder, o_klen, o_kald, o_tald, o_getSq, o_callk, o_callvH, gl, stl, stl2, pre2, va_rf, Value.category, catS, List.length_cons, List.length_nil, List.map_cons, List.map_nil, List.sum_cons, List.sum_nil, List.take_succ_cons, List.take_zero, List.drop_succ_cons, List.drop_zero, List.reverse_cons, List.reverse_nil, List.nil_append, List.cons_append, true_and, and_true, if_true, Nat.reduceAdd, Nat.reduceLT, Nat.reduceLeDiff, hm, b1]
  exact ⟨fun z => absurd z b2, fun _ => h⟩
theorem sp_rWordB (hI : RdS S S' m ad A) {c : Int32} {q : Nat} (hB : BdS S' m c q) {i : Nat} (h : Q (.inl (some (.int 0))) S') : WG ks (d + 6) n_X9_isWord [.ref m, .ref (ks i)] S' Q := by
  refine ⟨by simp [cat1, Value.category], by show (2 : Nat) ≤ 3; decide, ?_⟩
  show Run ks (WG ks (d + 5)) Q tb_X9_isWord 0 [some (.ref m), some (.ref (ks i)), none] [] S'
  have hm := hI.1.1
  obtain ⟨b1, b2, -⟩ := hB
  simp only [e_X9_isWord_0, e_X9_isWord_1, e_X9_isWord_4, e_X9_isWord_7, e_X9_isWord_8, e_X9_isWord_11, e_X9_isWord_14, e_X9_isWord_15, e_X9_isWord_18, e_X9_isWord_19, e_X9_isWord_22, e_X9_isWord_23, e_X9_isWord_24, e_X9_isWord_27, e_X9_isWord_30, e_X9_isWord_31, e_X9_isWord_32, e_X9_isWord_33, e_X9_isWord_35, e_X9_isWord_36, e_X9_isWord_39, e_X9_isWord_42, e_X9_isWord_43, e_X9_isWord_46, e_X9_isWord_47, e_X9_isWord_50, e_X9_isWord_51, e_X9_isWord_52, e_X9_isWord_53, e_X9_isWord_54, e_X9_isWord_55, e_X9_isWord_58, e_X9_isWord_61, e_X9_isWord_62, e_X9_isWord_63, e_X9_isWord_66, e_X9_isWord_69, e_X9_isWord_70, o_const, o_iload, o_aload, o_fload, o_dload, o_istore, o_astore, o_fstore, o_dstore, o_iinc, o_bin, o_div, o_un, o_i2l, o_i2f, o_i2d, o_f2d, o_fdiv, o_ddiv, o_lcmp, o_fcmp, o_dcmp, o_if, o_if2, o_goto, o_dup, o_dupx1, o_dup2, o_pop, o_getI, o_getR, o_putI, o_putR, o_iald, o_iast, o_bald, o_bast, o_zald, o_zast, o_aald, o_aast, o_jald, o_jast, o_dald, o_dast, o_alen, o_castA, o_new, o_newa, o_callv, o_callvN, o_calli, o_calls, o_objinit, o_iret, o_zret, o_fret, o_dret, o_aret, o_vret, o_throw, o_acopy, o_bcopy, o_clone, o_tsw, o_ldcS, o_kval, o_kcoder, o_klen, o_kald, o_tald, o_getSq, o_callk, o_callvH, gl, stl, stl2, pre2, va_rf, Value.category, catS, List.length_cons, List.length_nil, List.map_cons, List.map_nil, List.sum_cons, List.sum_nil, List.take_succ_cons, List.take_zero, List.drop_succ_cons, List.drop_zero, List.reverse_cons, List.reverse_nil, List.nil_append, List.cons_append, true_and, and_true, if_true, Nat.reduceAdd, Nat.reduceLT, Nat.reduceLeDiff, hm, b1]
  exact ⟨fun _ => ⟨rfl, h⟩, fun z => absurd b2 z⟩
theorem sp_rWord_lp (hI : RdS S S' m ad A) (hX : Txt S' m ad T n) (hG : GdS S' m T n p) {i : Nat} (hi : i < 3) (hlt : ltF T (n - p) p = p + kLen.getD i 0) (h1 : wrd T n i p → Q (.inl (some (.int 1))) S') (h0 : ¬ wrd T n i p → Q (.inl (some (.int 0))) S') :
    ∀ r k, k + r = kLen.getD i 0 → (∀ j, j < k → T (p + j) = (kByt.getD i []).getD j 0) → Run ks (WG ks (d + 5)) Q tb_X9_isWord 34 [some (.ref m), some (.ref (ks i)), some (.int (nI k))] [] S' := by
  have hm := hI.1.1
  have hMc := hI.1
  obtain ⟨-, -, -, -, -, -, ⟨a1, a2, a3, a4⟩, -⟩ := hMc
  obtain ⟨x1, x2, x3⟩ := hX
  obtain ⟨g1, ⟨g0, g2, -⟩, -⟩ := hG
  have hl := kLen_le i hi
  have hle := ltF_le (T := T) (n - p) p
  intro r
  induction r with
  | zero =>
    intro k hk hj
    have e : k = kLen.getD i 0 := by omega
    subst e
    rw [e_X9_isWord_34]
    simp only [e_X9_isWord_0, e_X9_isWord_1, e_X9_isWord_4, e_X9_isWord_7, e_X9_isWord_8, e_X9_isWord_11, e_X9_isWord_14, e_X9_isWord_15, e_X9_isWord_18, e_X9_isWord_19, e_X9_isWord_22, e_X9_isWord_23, e_X9_isWord_24, e_X9_isWord_27, e_X9_isWord_30, e_X9_isWord_31, e_X9_isWord_32, e_X9_isWord_33, e_X9_isWord_35, e_X9_isWord_36, e_X9_isWord_39, e_X9_isWord_42, e_X9_isWord_43, e_X9_isWord_46, e_X9_isWord_47, e_X9_isWord_50, e_X9_isWord_51, e_X9_isWord_52, e_X9_isWord_53, e_X9_isWord_54, e_X9_isWord_55, e_X9_isWord_58, e_X9_isWord_61, e_X9_isWord_62, e_X9_isWord_63, e_X9_isWord_66, e_X9_isWord_69, e_X9_isWord_70, o_const, o_iload, o_aload, o_fload, o_dload, o_istore, o_astore, o_fstore, o_dstore, o_iinc, o_bin, o_div, o_un, o_i2l, o_i2f, o_i2d, o_f2d, o_fdiv, o_ddiv, o_lcmp, o_fcmp, o_dcmp, o_if, o_if2, o_goto, o_dup, o_dupx1, o_dup2, o_pop, o_getI, o_getR, o_putI, o_putR, o_iald, o_iast, o_bald, o_bast, o_zald, o_zast, o_aald, o_aast, o_jald, o_jast, o_dald, o_dast, o_alen, o_castA, o_new, o_newa, o_callv, o_callvN, o_calli, o_calls, o_objinit, o_iret, o_zret, o_fret, o_dret, o_aret, o_vret, o_throw, o_acopy, o_bcopy, o_clone, o_tsw, o_ldcS, o_kval, o_kcoder, o_klen, o_kald, o_tald, o_getSq, o_callk, o_callvH, gl, stl, stl2, pre2, va_rf, Value.category, catS, List.length_cons, List.length_nil, List.map_cons, List.map_nil, List.sum_cons, List.sum_nil, List.take_succ_cons, List.take_zero, List.drop_succ_cons, List.drop_zero, List.reverse_cons, List.reverse_nil, List.nil_append, List.cons_append, true_and, and_true, if_true, Nat.reduceAdd, Nat.reduceLT, Nat.reduceLeDiff]
    refine ⟨⟨i, _, hi, rfl, rfl⟩, sp_strLen hi ?_⟩
    simp only [behind, e_X9_isWord_0, e_X9_isWord_1, e_X9_isWord_4, e_X9_isWord_7, e_X9_isWord_8, e_X9_isWord_11, e_X9_isWord_14, e_X9_isWord_15, e_X9_isWord_18, e_X9_isWord_19, e_X9_isWord_22, e_X9_isWord_23, e_X9_isWord_24, e_X9_isWord_27, e_X9_isWord_30, e_X9_isWord_31, e_X9_isWord_32, e_X9_isWord_33, e_X9_isWord_35, e_X9_isWord_36, e_X9_isWord_39, e_X9_isWord_42, e_X9_isWord_43, e_X9_isWord_46, e_X9_isWord_47, e_X9_isWord_50, e_X9_isWord_51, e_X9_isWord_52, e_X9_isWord_53, e_X9_isWord_54, e_X9_isWord_55, e_X9_isWord_58, e_X9_isWord_61, e_X9_isWord_62, e_X9_isWord_63, e_X9_isWord_66, e_X9_isWord_69, e_X9_isWord_70, o_const, o_iload, o_aload, o_fload, o_dload, o_istore, o_astore, o_fstore, o_dstore, o_iinc, o_bin, o_div, o_un, o_i2l, o_i2f, o_i2d, o_f2d, o_fdiv, o_ddiv, o_lcmp, o_fcmp, o_dcmp, o_if, o_if2, o_goto, o_dup, o_dupx1, o_dup2, o_pop, o_getI, o_getR, o_putI, o_putR, o_iald, o_iast, o_bald, o_bast, o_zald, o_zast, o_aald, o_aast, o_jald, o_jast, o_dald, o_dast, o_alen, o_castA, o_new, o_newa, o_callv, o_callvN, o_calli, o_calls, o_objinit, o_iret, o_zret, o_fret, o_dret, o_aret, o_vret, o_throw, o_acopy, o_bcopy, o_clone, o_tsw, o_ldcS, o_kval, o_kcoder, o_klen, o_kald, o_tald, o_getSq, o_callk, o_callvH, gl, stl, stl2, pre2, va_rf, Value.category, catS, List.length_cons, List.length_nil, List.map_cons, List.map_nil, List.sum_cons, List.sum_nil, List.take_succ_cons, List.take_zero, List.drop_succ_cons, List.drop_zero, List.reverse_cons, List.reverse_nil, List.nil_append, List.cons_append, true_and, and_true, if_true, Nat.reduceAdd, Nat.reduceLT, Nat.reduceLeDiff]
    exact ⟨fun _ => ⟨rfl, h1 (wrd_of g0 hlt hj)⟩, fun c => absurd (nI_le (Nat.le_refl _) (by omega)) c⟩
  | succ r ih =>
    intro k hk hj
    have ek : nI p + nI k = nI (p + k) := nI_add _ _
    have q0 : (nI (p + k)).toNatClampNeg = p + k := nI_clamp (by omega)
    have v0 : vp_in (nI (p + k)) 400 := vp_in_nI (by omega) (by decide)
    rw [e_X9_isWord_34]
    simp only [e_X9_isWord_0, e_X9_isWord_1, e_X9_isWord_4, e_X9_isWord_7, e_X9_isWord_8, e_X9_isWord_11, e_X9_isWord_14, e_X9_isWord_15, e_X9_isWord_18, e_X9_isWord_19, e_X9_isWord_22, e_X9_isWord_23, e_X9_isWord_24, e_X9_isWord_27, e_X9_isWord_30, e_X9_isWord_31, e_X9_isWord_32, e_X9_isWord_33, e_X9_isWord_35, e_X9_isWord_36, e_X9_isWord_39, e_X9_isWord_42, e_X9_isWord_43, e_X9_isWord_46, e_X9_isWord_47, e_X9_isWord_50, e_X9_isWord_51, e_X9_isWord_52, e_X9_isWord_53, e_X9_isWord_54, e_X9_isWord_55, e_X9_isWord_58, e_X9_isWord_61, e_X9_isWord_62, e_X9_isWord_63, e_X9_isWord_66, e_X9_isWord_69, e_X9_isWord_70, o_const, o_iload, o_aload, o_fload, o_dload, o_istore, o_astore, o_fstore, o_dstore, o_iinc, o_bin, o_div, o_un, o_i2l, o_i2f, o_i2d, o_f2d, o_fdiv, o_ddiv, o_lcmp, o_fcmp, o_dcmp, o_if, o_if2, o_goto, o_dup, o_dupx1, o_dup2, o_pop, o_getI, o_getR, o_putI, o_putR, o_iald, o_iast, o_bald, o_bast, o_zald, o_zast, o_aald, o_aast, o_jald, o_jast, o_dald, o_dast, o_alen, o_castA, o_new, o_newa, o_callv, o_callvN, o_calli, o_calls, o_objinit, o_iret, o_zret, o_fret, o_dret, o_aret, o_vret, o_throw, o_acopy, o_bcopy, o_clone, o_tsw, o_ldcS, o_kval, o_kcoder, o_klen, o_kald, o_tald, o_getSq, o_callk, o_callvH, gl, stl, stl2, pre2, va_rf, Value.category, catS, List.length_cons, List.length_nil, List.map_cons, List.map_nil, List.sum_cons, List.sum_nil, List.take_succ_cons, List.take_zero, List.drop_succ_cons, List.drop_zero, List.reverse_cons, List.reverse_nil, List.nil_append, List.cons_append, true_and, and_true, if_true, Nat.reduceAdd, Nat.reduceLT, Nat.reduceLeDiff]
    refine ⟨⟨i, _, hi, rfl, rfl⟩, sp_strLen hi ?_⟩
    simp only [behind, e_X9_isWord_0, e_X9_isWord_1, e_X9_isWord_4, e_X9_isWord_7, e_X9_isWord_8, e_X9_isWord_11, e_X9_isWord_14, e_X9_isWord_15, e_X9_isWord_18, e_X9_isWord_19, e_X9_isWord_22, e_X9_isWord_23, e_X9_isWord_24, e_X9_isWord_27, e_X9_isWord_30, e_X9_isWord_31, e_X9_isWord_32, e_X9_isWord_33, e_X9_isWord_35, e_X9_isWord_36, e_X9_isWord_39, e_X9_isWord_42, e_X9_isWord_43, e_X9_isWord_46, e_X9_isWord_47, e_X9_isWord_50, e_X9_isWord_51, e_X9_isWord_52, e_X9_isWord_53, e_X9_isWord_54, e_X9_isWord_55, e_X9_isWord_58, e_X9_isWord_61, e_X9_isWord_62, e_X9_isWord_63, e_X9_isWord_66, e_X9_isWord_69, e_X9_isWord_70, o_const, o_iload, o_aload, o_fload, o_dload, o_istore, o_astore, o_fstore, o_dstore, o_iinc, o_bin, o_div, o_un, o_i2l, o_i2f, o_i2d, o_f2d, o_fdiv, o_ddiv, o_lcmp, o_fcmp, o_dcmp, o_if, o_if2, o_goto, o_dup, o_dupx1, o_dup2, o_pop, o_getI, o_getR, o_putI, o_putR, o_iald, o_iast, o_bald, o_bast, o_zald, o_zast, o_aald, o_aast, o_jald, o_jast, o_dald, o_dast, o_alen, o_castA, o_new, o_newa, o_callv, o_callvN, o_calli, o_calls, o_objinit, o_iret, o_zret, o_fret, o_dret, o_aret, o_vret, o_throw, o_acopy, o_bcopy, o_clone, o_tsw, o_ldcS, o_kval, o_kcoder, o_klen, o_kald, o_tald, o_getSq, o_callk, o_callvH, gl, stl, stl2, pre2, va_rf, Value.category, catS, List.length_cons, List.length_nil, List.map_cons, List.map_nil, List.sum_cons, List.sum_nil, List.take_succ_cons, List.take_zero, List.drop_succ_cons, List.drop_zero, List.reverse_cons, List.reverse_nil, List.nil_append, List.cons_append, true_and, and_true, if_true, Nat.reduceAdd, Nat.reduceLT, Nat.reduceLeDiff, hm, a1, a2, a3, a4, g2, ek, q0, v0, x3 (p + k) (by omega)]
    refine ⟨fun c => absurd ((nI_leI (by omega) (by omega)).mp c) (by omega), fun _ => ⟨⟨i, _, hi, rfl, rfl⟩, sp_strChar hi (by omega) ?_⟩⟩
    simp only [behind, e_X9_isWord_0, e_X9_isWord_1, e_X9_isWord_4, e_X9_isWord_7, e_X9_isWord_8, e_X9_isWord_11, e_X9_isWord_14, e_X9_isWord_15, e_X9_isWord_18, e_X9_isWord_19, e_X9_isWord_22, e_X9_isWord_23, e_X9_isWord_24, e_X9_isWord_27, e_X9_isWord_30, e_X9_isWord_31, e_X9_isWord_32, e_X9_isWord_33, e_X9_isWord_35, e_X9_isWord_36, e_X9_isWord_39, e_X9_isWord_42, e_X9_isWord_43, e_X9_isWord_46, e_X9_isWord_47, e_X9_isWord_50, e_X9_isWord_51, e_X9_isWord_52, e_X9_isWord_53, e_X9_isWord_54, e_X9_isWord_55, e_X9_isWord_58, e_X9_isWord_61, e_X9_isWord_62, e_X9_isWord_63, e_X9_isWord_66, e_X9_isWord_69, e_X9_isWord_70, o_const, o_iload, o_aload, o_fload, o_dload, o_istore, o_astore, o_fstore, o_dstore, o_iinc, o_bin, o_div, o_un, o_i2l, o_i2f, o_i2d, o_f2d, o_fdiv, o_ddiv, o_lcmp, o_fcmp, o_dcmp, o_if, o_if2, o_goto, o_dup, o_dupx1, o_dup2, o_pop, o_getI, o_getR, o_putI, o_putR, o_iald, o_iast, o_bald, o_bast, o_zald, o_zast, o_aald, o_aast, o_jald, o_jast, o_dald, o_dast, o_alen, o_castA, o_new, o_newa, o_callv, o_callvN, o_calli, o_calls, o_objinit, o_iret, o_zret, o_fret, o_dret, o_aret, o_vret, o_throw, o_acopy, o_bcopy, o_clone, o_tsw, o_ldcS, o_kval, o_kcoder, o_klen, o_kald, o_tald, o_getSq, o_callk, o_callvH, gl, stl, stl2, pre2, va_rf, Value.category, catS, List.length_cons, List.length_nil, List.map_cons, List.map_nil, List.sum_cons, List.sum_nil, List.take_succ_cons, List.take_zero, List.drop_succ_cons, List.drop_zero, List.reverse_cons, List.reverse_nil, List.nil_append, List.cons_append, true_and, and_true, if_true, Nat.reduceAdd, Nat.reduceLT, Nat.reduceLeDiff, nI_1]
    refine ⟨fun c => ?_, fun c => ⟨rfl, h0 (fun w => ?_)⟩⟩
    · exact ih (k + 1) (by omega) (fun j hj2 => by
        by_cases e : j = k
        · rw [e]; exact c
        · exact hj j (by omega))
    · have := w.1 k (by omega)
      rw [show byI T n (p + k) = T (p + k) from if_pos (by omega)] at this
      exact c this
theorem sp_rWord (hI : RdS S S' m ad A) (hX : Txt S' m ad T n) (hG : GdS S' m T n p) {i : Nat} (hi : i < 3) (h1 : wrd T n i p → Q (.inl (some (.int 1))) S') (h0 : ¬ wrd T n i p → Q (.inl (some (.int 0))) S') : WG ks (d + 6) n_X9_isWord [.ref m, .ref (ks i)] S' Q := by
  refine ⟨by simp [cat1, Value.category], by show (2 : Nat) ≤ 3; decide, ?_⟩
  show Run ks (WG ks (d + 5)) Q tb_X9_isWord 0 [some (.ref m), some (.ref (ks i)), none] [] S'
  have hm := hI.1.1
  have hGc := hG
  obtain ⟨g1, gT, -⟩ := hGc
  have gTc := gT
  obtain ⟨g0, g2, -⟩ := gTc
  obtain ⟨x1, x2, x3⟩ := hX
  have hl := kLen_le i hi
  have hle := ltF_le (T := T) (n - p) p
  simp only [e_X9_isWord_0, e_X9_isWord_1, e_X9_isWord_4, e_X9_isWord_7, e_X9_isWord_8, e_X9_isWord_11, e_X9_isWord_14, e_X9_isWord_15, e_X9_isWord_18, e_X9_isWord_19, e_X9_isWord_22, e_X9_isWord_23, e_X9_isWord_24, e_X9_isWord_27, e_X9_isWord_30, e_X9_isWord_31, e_X9_isWord_32, e_X9_isWord_33, e_X9_isWord_35, e_X9_isWord_36, e_X9_isWord_39, e_X9_isWord_42, e_X9_isWord_43, e_X9_isWord_46, e_X9_isWord_47, e_X9_isWord_50, e_X9_isWord_51, e_X9_isWord_52, e_X9_isWord_53, e_X9_isWord_54, e_X9_isWord_55, e_X9_isWord_58, e_X9_isWord_61, e_X9_isWord_62, e_X9_isWord_63, e_X9_isWord_66, e_X9_isWord_69, e_X9_isWord_70, o_const, o_iload, o_aload, o_fload, o_dload, o_istore, o_astore, o_fstore, o_dstore, o_iinc, o_bin, o_div, o_un, o_i2l, o_i2f, o_i2d, o_f2d, o_fdiv, o_ddiv, o_lcmp, o_fcmp, o_dcmp, o_if, o_if2, o_goto, o_dup, o_dupx1, o_dup2, o_pop, o_getI, o_getR, o_putI, o_putR, o_iald, o_iast, o_bald, o_bast, o_zald, o_zast, o_aald, o_aast, o_jald, o_jast, o_dald, o_dast, o_alen, o_castA, o_new, o_newa, o_callv, o_callvN, o_calli, o_calls, o_objinit, o_iret, o_zret, o_fret, o_dret, o_aret, o_vret, o_throw, o_acopy, o_bcopy, o_clone, o_tsw, o_ldcS, o_kval, o_kcoder, o_klen, o_kald, o_tald, o_getSq, o_callk, o_callvH, gl, stl, stl2, pre2, va_rf, Value.category, catS, List.length_cons, List.length_nil, List.map_cons, List.map_nil, List.sum_cons, List.sum_nil, List.take_succ_cons, List.take_zero, List.drop_succ_cons, List.drop_zero, List.reverse_cons, List.reverse_nil, List.nil_append, List.cons_append, true_and, and_true, if_true, Nat.reduceAdd, Nat.reduceLT, Nat.reduceLeDiff, hm, g1]
  refine ⟨fun z => absurd (by decide) z, fun _ => ⟨fun c => ⟨rfl, h0 (fun w => ?_)⟩, fun c => ?_⟩⟩
  · obtain ⟨w1, w2, -⟩ := wrd_lt hi w
    exact c (gT.let.1 ⟨w1, w2⟩).1
  · have hpl : p < n ∧ isL (T p) := by
      by_cases e : p < n ∧ isL (T p)
      · exact e
      · exact absurd (Classical.not_not.mp c) (gT.let.2 e)
    have k11 := (gT.let.1 hpl).2
    have ed : nI (ltF T (n - p) p) - nI p = nI (ltF T (n - p) p - p) := pk_sub hle.1
    simp only [k11, g2, ed]
    refine ⟨⟨i, _, hi, rfl, rfl⟩, sp_strLen hi ?_⟩
    simp only [behind, e_X9_isWord_0, e_X9_isWord_1, e_X9_isWord_4, e_X9_isWord_7, e_X9_isWord_8, e_X9_isWord_11, e_X9_isWord_14, e_X9_isWord_15, e_X9_isWord_18, e_X9_isWord_19, e_X9_isWord_22, e_X9_isWord_23, e_X9_isWord_24, e_X9_isWord_27, e_X9_isWord_30, e_X9_isWord_31, e_X9_isWord_32, e_X9_isWord_33, e_X9_isWord_35, e_X9_isWord_36, e_X9_isWord_39, e_X9_isWord_42, e_X9_isWord_43, e_X9_isWord_46, e_X9_isWord_47, e_X9_isWord_50, e_X9_isWord_51, e_X9_isWord_52, e_X9_isWord_53, e_X9_isWord_54, e_X9_isWord_55, e_X9_isWord_58, e_X9_isWord_61, e_X9_isWord_62, e_X9_isWord_63, e_X9_isWord_66, e_X9_isWord_69, e_X9_isWord_70, o_const, o_iload, o_aload, o_fload, o_dload, o_istore, o_astore, o_fstore, o_dstore, o_iinc, o_bin, o_div, o_un, o_i2l, o_i2f, o_i2d, o_f2d, o_fdiv, o_ddiv, o_lcmp, o_fcmp, o_dcmp, o_if, o_if2, o_goto, o_dup, o_dupx1, o_dup2, o_pop, o_getI, o_getR, o_putI, o_putR, o_iald, o_iast, o_bald, o_bast, o_zald, o_zast, o_aald, o_aast, o_jald, o_jast, o_dald, o_dast, o_alen, o_castA, o_new, o_newa, o_callv, o_callvN, o_calli, o_calls, o_objinit, o_iret, o_zret, o_fret, o_dret, o_aret, o_vret, o_throw, o_acopy, o_bcopy, o_clone, o_tsw, o_ldcS, o_kval, o_kcoder, o_klen, o_kald, o_tald, o_getSq, o_callk, o_callvH, gl, stl, stl2, pre2, va_rf, Value.category, catS, List.length_cons, List.length_nil, List.map_cons, List.map_nil, List.sum_cons, List.sum_nil, List.take_succ_cons, List.take_zero, List.drop_succ_cons, List.drop_zero, List.reverse_cons, List.reverse_nil, List.nil_append, List.cons_append, true_and, and_true, if_true, Nat.reduceAdd, Nat.reduceLT, Nat.reduceLeDiff]
    refine ⟨fun c2 => ?_, fun c2 => ⟨rfl, h0 (fun w => ?_)⟩⟩
    · have e := (nI_eq (by omega) (by omega)).mp c2
      exact sp_rWord_lp hI ⟨x1, x2, x3⟩ hG hi (by omega) h1 h0 _ 0 (Nat.zero_add _) (fun j hj => absurd hj (Nat.not_lt_zero j))
    · obtain ⟨-, -, w3⟩ := wrd_lt hi w
      exact c2 (by rw [w3, Nat.add_sub_cancel_left])
end SPS
