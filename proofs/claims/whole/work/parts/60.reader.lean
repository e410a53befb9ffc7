/-! THE READER: its places -/
/-- the byte at a place, -1 behind the text -/
def byI (T : Nat → Int32) (n k : Nat) : Int32 := if k < n then T k else -1
def skF (T : Nat → Int32) : Nat → Nat → Nat
  | 0, k => k
  | r + 1, k => if T k = 32 then skF T r (k + 1) else k
/-- the next place without a space -/
def skp (T : Nat → Int32) (n k : Nat) : Nat := skF T (n - k) k
theorem skF_le (T : Nat → Int32) : ∀ r k, k ≤ skF T r k ∧ skF T r k ≤ k + r := by
  intro r
  induction r with
  | zero => intro k; exact ⟨Nat.le_refl _, Nat.le_refl _⟩
  | succ r ih =>
    intro k
    have := ih (k + 1)
    simp only [skF]; split <;> omega
theorem skp_le {T : Nat → Int32} {n k : Nat} (h : k ≤ n) : k ≤ skp T n k ∧ skp T n k ≤ n := by
  have := skF_le T (n - k) k
  unfold skp; omega
theorem skp_idem {T : Nat → Int32} {n : Nat} : ∀ r k, k + r = n → skp T n (skp T n k) = skp T n k := by
  intro r
  induction r with
  | zero => intro k h; unfold skp; rw [show n - k = 0 from by omega]; simp only [skF]; rw [show n - k = 0 from by omega]; rfl
  | succ r ih =>
    intro k h
    have e : skp T n k = if T k = 32 then skp T n (k + 1) else k := by
      unfold skp; rw [show n - k = (n - (k + 1)) + 1 from by omega]; rfl
    by_cases c : T k = 32
    · rw [if_pos c] at e; rw [e]; exact ih (k + 1) (by omega)
    · rw [if_neg c] at e; rw [e, e]
abbrev isD (x : Int32) : Prop := ¬ x < 48 ∧ ¬ 57 < x
abbrev isL (x : Int32) : Prop := ¬ x < 97 ∧ ¬ 122 < x
def RdR (S : M9) (p tk : Nat) (T : Nat → Int32) (n k s : Nat) (nu er ep : Int32) : Prop := ∃ t : Nat, p ∈ gL S ∧ gK S p = 5 ∧ gR S 5 p 0 = some t ∧ gI S 5 p 1 = nI n ∧ gI S 5 p 2 = nI k ∧ gI S 5 p 3 = nu ∧ gR S 5 p 4 = some s ∧ gI S 5 p 5 = er ∧ gI S 5 p 6 = ep ∧ ArrR S tk t 400 T ∧ (n ≤ 400 ∧ k ≤ n) ∧ (60 ≤ tk ∧ tk < 100)
theorem RdR.fr {S S' : M9} {W : Nat → Nat → Prop} {c z p tk n k s : Nat} {T : Nat → Int32} {nu er ep : Int32} (h : RdR S p tk T n k s nu er ep) (hF : Fr S S' W c z) (h5 : ¬ W 5 p) (ht : ∀ a, ¬ W tk a) : RdR S' p tk T n k s nu er ep := by
  obtain ⟨t, h1, h2, h3, h4, h5', h6, h7, h8, h9, hT, h10, h11⟩ := h
  obtain ⟨x1, x2, -⟩ := hF.1 p h1
  obtain ⟨y1, y2, -⟩ := hF.2.1 5 p h1 h5
  exact ⟨t, x1, x2.trans h2, by rw [y2]; exact h3, by rw [y1]; exact h4, by rw [y1]; exact h5', by rw [y1]; exact h6, by rw [y2]; exact h7, by rw [y1]; exact h8, by rw [y1]; exact h9, hT.fr hF (ht _), h10, h11⟩
/-- the frame of the reader's own fields -/
def RdA (p t a : Nat) : Prop := t = 5 ∧ a = p
theorem RdR.k {S : M9} {p tk n k s k' : Nat} {T : Nat → Int32} {nu er ep : Int32} (h : RdR S p tk T n k s nu er ep) (hk : k' ≤ n) : RdR (sI S 5 p 2 (nI k')) p tk T n k' s nu er ep := by
  obtain ⟨t, h1, h2, h3, h4, h5, h6, h7, h8, h9, hT, h10, h11⟩ := h
  have hF := Fr.sI S 5 p 2 (nI k')
  exact ⟨t, (hF.1 p h1).1, (hF.1 p h1).2.1.trans h2, by rw [gR_sI]; exact h3, by rw [gI_sIk, if_neg (fun w => absurd w.2.2 (by decide))]; exact h4, by rw [gI_sIk, if_pos ⟨rfl, rfl, rfl⟩], by rw [gI_sIk, if_neg (fun w => absurd w.2.2 (by decide))]; exact h6, by rw [gR_sI]; exact h7, by rw [gI_sIk, if_neg (fun w => absurd w.2.2 (by decide))]; exact h8, by rw [gI_sIk, if_neg (fun w => absurd w.2.2 (by decide))]; exact h9, hT.fr hF (fun w => by omega), ⟨h10.1, hk⟩, h11⟩
theorem RdR.nu {S : M9} {p tk n k s : Nat} {T : Nat → Int32} {nu nu' er ep : Int32} (h : RdR S p tk T n k s nu er ep) : RdR (sI S 5 p 3 nu') p tk T n k s nu' er ep := by
  obtain ⟨t, h1, h2, h3, h4, h5, h6, h7, h8, h9, hT, h10, h11⟩ := h
  have hF := Fr.sI S 5 p 3 nu'
  exact ⟨t, (hF.1 p h1).1, (hF.1 p h1).2.1.trans h2, by rw [gR_sI]; exact h3, by rw [gI_sIk, if_neg (fun w => absurd w.2.2 (by decide))]; exact h4, by rw [gI_sIk, if_neg (fun w => absurd w.2.2 (by decide))]; exact h5, by rw [gI_sIk, if_pos ⟨rfl, rfl, rfl⟩], by rw [gR_sI]; exact h7, by rw [gI_sIk, if_neg (fun w => absurd w.2.2 (by decide))]; exact h8, by rw [gI_sIk, if_neg (fun w => absurd w.2.2 (by decide))]; exact h9, hT.fr hF (fun w => by omega), h10, h11⟩
theorem RdR.er {S : M9} {p tk n k s : Nat} {T : Nat → Int32} {nu er ep er' ep' : Int32} (h : RdR S p tk T n k s nu er ep) : RdR (sI (sI S 5 p 5 er') 5 p 6 ep') p tk T n k s nu er' ep' := by
  obtain ⟨t, h1, h2, h3, h4, h5, h6, h7, h8, h9, hT, h10, h11⟩ := h
  have hF := (Fr.sI S 5 p 5 er').trans (Fr.sI (sI S 5 p 5 er') 5 p 6 ep')
  have e : ∀ j, ¬ j = 5 → ¬ j = 6 → gI (sI (sI S 5 p 5 er') 5 p 6 ep') 5 p j = gI S 5 p j := fun j a b => by rw [gI_sIk, if_neg (fun w => b w.2.2), gI_sIk, if_neg (fun w => a w.2.2)]
  exact ⟨t, (hF.1 p h1).1, (hF.1 p h1).2.1.trans h2, by rw [gR_sI, gR_sI]; exact h3, by rw [e _ (by decide) (by decide)]; exact h4, by rw [e _ (by decide) (by decide)]; exact h5, by rw [e _ (by decide) (by decide)]; exact h6, by rw [gR_sI, gR_sI]; exact h7, by rw [gI_sIk, if_neg (fun w => absurd w.2.2 (by decide)), gI_sIk, if_pos ⟨rfl, rfl, rfl⟩], by rw [gI_sIk, if_pos ⟨rfl, rfl, rfl⟩], hT.fr hF (fun w => by omega), h10, h11⟩
section SPS
variable {ks : Nat → Nat} {d : Nat} {Q : QP} {S : M9} {p tk n k s : Nat} {T : Nat → Int32} {nu er ep : Int32}
theorem sp_byteAt (hR : RdR S p tk T n k s nu er ep) {j : Nat} (hj : j < 2 ^ 31) (h : Q (.inl (some (.int (byI T n j)))) S) : WG ks (d + 1) n_X3_byteAt [.ref p, .int (nI j)] S Q := by
  refine ⟨by simp [cat1, Value.category], by show (2 : Nat) ≤ 2; decide, ?_⟩
  show Run ks (WG ks d) Q tb_X3_byteAt 0 [some (.ref p), some (.int (nI j))] [] S
  obtain ⟨t, h1, h2, h3, h4, h5, h6, h7, h8, h9, ⟨t1, t2, t3, t4⟩, h10, h11⟩ := hR
  simp only [e_X3_byteAt_0, e_X3_byteAt_1, e_X3_byteAt_4, e_X3_byteAt_5, e_X3_byteAt_6, e_X3_byteAt_9, e_X3_byteAt_12, e_X3_byteAt_13, e_X3_byteAt_16, e_X3_byteAt_17, e_X3_byteAt_18, e_X3_byteAt_21, e_X3_byteAt_22, o_const, o_iload, o_aload, o_fload, o_dload, o_istore, o_astore, o_fstore, o_dstore, o_iinc, o_bin, o_div, o_un, o_i2l, o_i2f, o_i2d, o_f2d, o_fdiv, o_ddiv, o_lcmp, o_fcmp, o_dcmp, o_if, o_if2, o_goto, o_dup, o_dupx1, o_dup2, o_pop, o_getI, o_getR, o_putI, o_putR, o_iald, o_iast, o_bald, o_bast, o_zald, o_zast, o_aald, o_aast, o_jald, o_jast, o_dald, o_dast, o_alen, o_castA, o_new, o_newa, o_callv, o_callvN, o_calli, o_calls, o_objinit, o_iret, o_zret, o_fret, o_dret, o_aret, o_vret, o_throw, o_acopy, o_bcopy, o_clone, o_tsw, o_ldcS, o_kval, o_kcoder, o_klen, o_kald, o_tald, o_getSq, o_callk, o_callvH, gl, stl, stl2, pre2, va_rf, Value.category, catS, List.length_cons, List.length_nil, List.map_cons, List.map_nil, List.sum_cons, List.sum_nil, List.take_succ_cons, List.take_zero, List.drop_succ_cons, List.drop_zero, List.reverse_cons, List.reverse_nil, List.nil_append, List.cons_append, true_and, and_true, if_true, Nat.reduceAdd, Nat.reduceLT, Nat.reduceLeDiff, h1, h2, h3, h4, t1, t2, t3, nI_clamp hj, nI_leI (show n < 2 ^ 31 by omega) hj]
  unfold byI at h
  refine ⟨fun c => absurd c (nI_pos hj), fun _ => ⟨fun c => ?_, fun c => ?_⟩⟩
  · rw [if_neg (by omega)] at h; exact h
  · rw [if_pos (by omega)] at h
    rw [t4 j (by omega)]
    exact ⟨by omega, vp_in_nI (by omega) (by decide), h⟩
theorem sp_isDigit {x : Int32} (h1 : isD x → Q (.inl (some (.int 1))) S) (h0 : ¬ isD x → Q (.inl (some (.int 0))) S) : WG ks (d + 1) n_X3_isDigit [.int x] S Q := by
  refine ⟨by simp [cat1, Value.category], by show (1 : Nat) ≤ 1; decide, ?_⟩
  show Run ks (WG ks d) Q tb_X3_isDigit 0 [some (.int x)] [] S
  simp only [e_X3_isDigit_0, e_X3_isDigit_1, e_X3_isDigit_3, e_X3_isDigit_6, e_X3_isDigit_7, e_X3_isDigit_9, e_X3_isDigit_12, e_X3_isDigit_13, e_X3_isDigit_16, e_X3_isDigit_17, o_const, o_iload, o_aload, o_fload, o_dload, o_istore, o_astore, o_fstore, o_dstore, o_iinc, o_bin, o_div, o_un, o_i2l, o_i2f, o_i2d, o_f2d, o_fdiv, o_ddiv, o_lcmp, o_fcmp, o_dcmp, o_if, o_if2, o_goto, o_dup, o_dupx1, o_dup2, o_pop, o_getI, o_getR, o_putI, o_putR, o_iald, o_iast, o_bald, o_bast, o_zald, o_zast, o_aald, o_aast, o_jald, o_jast, o_dald, o_dast, o_alen, o_castA, o_new, o_newa, o_callv, o_callvN, o_calli, o_calls, o_objinit, o_iret, o_zret, o_fret, o_dret, o_aret, o_vret, o_throw, o_acopy, o_bcopy, o_clone, o_tsw, o_ldcS, o_kval, o_kcoder, o_klen, o_kald, o_tald, o_getSq, o_callk, o_callvH, gl, stl, stl2, pre2, va_rf, Value.category, catS, List.length_cons, List.length_nil, List.map_cons, List.map_nil, List.sum_cons, List.sum_nil, List.take_succ_cons, List.take_zero, List.drop_succ_cons, List.drop_zero, List.reverse_cons, List.reverse_nil, List.nil_append, List.cons_append, true_and, and_true, if_true, Nat.reduceAdd, Nat.reduceLT, Nat.reduceLeDiff]
  exact ⟨fun c => ⟨rfl, h0 (fun w => w.1 c)⟩, fun c => ⟨fun c2 => ⟨rfl, h0 (fun w => w.2 c2)⟩, fun c2 => ⟨rfl, h1 ⟨c, c2⟩⟩⟩⟩
theorem sp_isLetter {x : Int32} (h1 : isL x → Q (.inl (some (.int 1))) S) (h0 : ¬ isL x → Q (.inl (some (.int 0))) S) : WG ks (d + 1) n_X3_isLetter [.int x] S Q := by
  refine ⟨by simp [cat1, Value.category], by show (1 : Nat) ≤ 1; decide, ?_⟩
  show Run ks (WG ks d) Q tb_X3_isLetter 0 [some (.int x)] [] S
  simp only [e_X3_isLetter_0, e_X3_isLetter_1, e_X3_isLetter_3, e_X3_isLetter_6, e_X3_isLetter_7, e_X3_isLetter_9, e_X3_isLetter_12, e_X3_isLetter_13, e_X3_isLetter_16, e_X3_isLetter_17, o_const, o_iload, o_aload, o_fload, o_dload, o_istore, o_astore, o_fstore, o_dstore, o_iinc, o_bin, o_div, o_un, o_i2l, o_i2f, o_i2d, o_f2d, o_fdiv, o_ddiv, o_lcmp, o_fcmp, o_dcmp, o_if, o_if2, o_goto, o_dup, o_dupx1, o_dup2, o_pop, o_getI, o_getR, o_putI, o_putR, o_iald, o_iast, o_bald, o_bast, o_zald, o_zast, o_aald, o_aast, o_jald, o_jast, o_dald, o_dast, o_alen, o_castA, o_new, o_newa, o_callv, o_callvN, o_calli, o_calls, o_objinit, o_iret, o_zret, o_fret, o_dret, o_aret, o_vret, o_throw, o_acopy, o_bcopy, o_clone, o_tsw, o_ldcS, o_kval, o_kcoder, o_klen, o_kald, o_tald, o_getSq, o_callk, o_callvH, gl, stl, stl2, pre2, va_rf, Value.category, catS, List.length_cons, List.length_nil, List.map_cons, List.map_nil, List.sum_cons, List.sum_nil, List.take_succ_cons, List.take_zero, List.drop_succ_cons, List.drop_zero, List.reverse_cons, List.reverse_nil, List.nil_append, List.cons_append, true_and, and_true, if_true, Nat.reduceAdd, Nat.reduceLT, Nat.reduceLeDiff]
  exact ⟨fun c => ⟨rfl, h0 (fun w => w.1 c)⟩, fun c => ⟨fun c2 => ⟨rfl, h0 (fun w => w.2 c2)⟩, fun c2 => ⟨rfl, h1 ⟨c, c2⟩⟩⟩⟩
theorem sp_fail (hR : RdR S p tk T n k s nu er ep) {er' ep' : Int32} (h : ∀ S', RdR S' p tk T n k s nu er' ep' → Fr S S' (RdA p) 0 0 → Q (.inl (some (.int 0))) S') : WG ks (d + 1) n_X3_fail [.ref p, .int er', .int ep'] S Q := by
  refine ⟨by simp [cat1, Value.category], by show (3 : Nat) ≤ 3; decide, ?_⟩
  show Run ks (WG ks d) Q tb_X3_fail 0 [some (.ref p), some (.int er'), some (.int ep')] [] S
  have hRc := hR
  obtain ⟨t, h1, h2, h3, h4, h5, h6, h7, h8, h9, ⟨t1, t2, t3, t4⟩, h10, h11⟩ := hRc
  simp only [e_X3_fail_0, e_X3_fail_1, e_X3_fail_2, e_X3_fail_5, e_X3_fail_6, e_X3_fail_7, e_X3_fail_10, e_X3_fail_11, o_const, o_iload, o_aload, o_fload, o_dload, o_istore, o_astore, o_fstore, o_dstore, o_iinc, o_bin, o_div, o_un, o_i2l, o_i2f, o_i2d, o_f2d, o_fdiv, o_ddiv, o_lcmp, o_fcmp, o_dcmp, o_if, o_if2, o_goto, o_dup, o_dupx1, o_dup2, o_pop, o_getI, o_getR, o_putI, o_putR, o_iald, o_iast, o_bald, o_bast, o_zald, o_zast, o_aald, o_aast, o_jald, o_jast, o_dald, o_dast, o_alen, o_castA, o_new, o_newa, o_callv, o_callvN, o_calli, o_calls, o_objinit, o_iret, o_zret, o_fret, o_dret, o_aret, o_vret, o_throw, o_acopy, o_bcopy, o_clone, o_tsw, o_ldcS, o_kval, o_kcoder, o_klen, o_kald, o_tald, o_getSq, o_callk, o_callvH, gl, stl, stl2, pre2, va_rf, Value.category, catS, List.length_cons, List.length_nil, List.map_cons, List.map_nil, List.sum_cons, List.sum_nil, List.take_succ_cons, List.take_zero, List.drop_succ_cons, List.drop_zero, List.reverse_cons, List.reverse_nil, List.nil_append, List.cons_append, true_and, and_true, if_true, Nat.reduceAdd, Nat.reduceLT, Nat.reduceLeDiff, h1, h2, gL_sW, gL_sI, gL_sR, gL_sC, gL_nW, gK_sW, gK_sI, gK_sR, gK_sC, gK_nW, gN_sW, gN_sI, gN_sR, gN_sC, gN_nW, gC_sW, gC_sI, gC_sR, gC_sC, gC_nW, gZ_sW, gZ_sI, gZ_sR, gZ_sC, gZ_nW, narI]
  exact ⟨rfl, h _ hR.er (((Fr.sI S 5 p 5 er').trans (Fr.sI (sI S 5 p 5 er') 5 p 6 ep')).mono (fun _ _ _ w => w.elim id id) (by decide) (by decide))⟩
theorem sp_skip_lp (h : ∀ S', RdR S' p tk T n (skp T n k) s nu er ep → Fr S S' (RdA p) 0 0 → Q (.inl none) S') :
    ∀ r j S', j + r = n → skp T n j = skp T n k → RdR S' p tk T n j s nu er ep → Fr S S' (RdA p) 0 0 → Run ks (WG ks (d + 1)) Q tb_X3_skipSpaces 0 [some (.ref p)] [] S' := by
  intro r
  induction r with
  | zero =>
    intro j S' hj he hR hF
    have hRc := hR
    obtain ⟨t, h1, h2, h3, h4, h5, h6, h7, h8, h9, ⟨t1, t2, t3, t4⟩, h10, h11⟩ := hRc
    have ej : j = n := by omega
    subst ej
    have e0 : skp T j j = j := by unfold skp; rw [Nat.sub_self]; rfl
    rw [e_X3_skipSpaces_0]
    simp only [e_X3_skipSpaces_1, e_X3_skipSpaces_4, e_X3_skipSpaces_5, e_X3_skipSpaces_8, e_X3_skipSpaces_11, e_X3_skipSpaces_12, e_X3_skipSpaces_13, e_X3_skipSpaces_16, e_X3_skipSpaces_19, e_X3_skipSpaces_21, e_X3_skipSpaces_24, e_X3_skipSpaces_25, e_X3_skipSpaces_26, e_X3_skipSpaces_29, e_X3_skipSpaces_30, e_X3_skipSpaces_31, e_X3_skipSpaces_34, e_X3_skipSpaces_37, o_const, o_iload, o_aload, o_fload, o_dload, o_istore, o_astore, o_fstore, o_dstore, o_iinc, o_bin, o_div, o_un, o_i2l, o_i2f, o_i2d, o_f2d, o_fdiv, o_ddiv, o_lcmp, o_fcmp, o_dcmp, o_if, o_if2, o_goto, o_dup, o_dupx1, o_dup2, o_pop, o_getI, o_getR, o_putI, o_putR, o_iald, o_iast, o_bald, o_bast, o_zald, o_zast, o_aald, o_aast, o_jald, o_jast, o_dald, o_dast, o_alen, o_castA, o_new, o_newa, o_callv, o_callvN, o_calli, o_calls, o_objinit, o_iret, o_zret, o_fret, o_dret, o_aret, o_vret, o_throw, o_acopy, o_bcopy, o_clone, o_tsw, o_ldcS, o_kval, o_kcoder, o_klen, o_kald, o_tald, o_getSq, o_callk, o_callvH, gl, stl, stl2, pre2, va_rf, Value.category, catS, List.length_cons, List.length_nil, List.map_cons, List.map_nil, List.sum_cons, List.sum_nil, List.take_succ_cons, List.take_zero, List.drop_succ_cons, List.drop_zero, List.reverse_cons, List.reverse_nil, List.nil_append, List.cons_append, true_and, and_true, if_true, Nat.reduceAdd, Nat.reduceLT, Nat.reduceLeDiff, h1, h2, h4, h5]
    refine ⟨fun _ => h S' (by rw [← he, e0]; exact hR) hF, fun c => absurd (nI_le (Nat.le_refl j) (by omega)) c⟩
  | succ r ih =>
    intro j S' hj he hR hF
    have hRc := hR
    obtain ⟨t, h1, h2, h3, h4, h5, h6, h7, h8, h9, ⟨t1, t2, t3, t4⟩, h10, h11⟩ := hRc
    have e : skp T n j = if T j = 32 then skp T n (j + 1) else j := by
      unfold skp; rw [show n - j = (n - (j + 1)) + 1 from by omega]; rfl
    have eb : byI T n j = T j := if_pos (by omega)
    rw [e_X3_skipSpaces_0]
    simp only [e_X3_skipSpaces_1, e_X3_skipSpaces_4, e_X3_skipSpaces_5, e_X3_skipSpaces_8, e_X3_skipSpaces_11, e_X3_skipSpaces_12, e_X3_skipSpaces_13, e_X3_skipSpaces_16, e_X3_skipSpaces_19, e_X3_skipSpaces_21, e_X3_skipSpaces_24, e_X3_skipSpaces_25, e_X3_skipSpaces_26, e_X3_skipSpaces_29, e_X3_skipSpaces_30, e_X3_skipSpaces_31, e_X3_skipSpaces_34, e_X3_skipSpaces_37, o_const, o_iload, o_aload, o_fload, o_dload, o_istore, o_astore, o_fstore, o_dstore, o_iinc, o_bin, o_div, o_un, o_i2l, o_i2f, o_i2d, o_f2d, o_fdiv, o_ddiv, o_lcmp, o_fcmp, o_dcmp, o_if, o_if2, o_goto, o_dup, o_dupx1, o_dup2, o_pop, o_getI, o_getR, o_putI, o_putR, o_iald, o_iast, o_bald, o_bast, o_zald, o_zast, o_aald, o_aast, o_jald, o_jast, o_dald, o_dast, o_alen, o_castA, o_new, o_newa, o_callv, o_callvN, o_calli, o_calls, o_objinit, o_iret, o_zret, o_fret, o_dret, o_aret, o_vret, o_throw, o_acopy, o_bcopy, o_clone, o_tsw, o_ldcS, o_kval, o_kcoder, o_klen, o_kald, o_tald, o_getSq, o_callk, o_callvH, gl, stl, stl2, pre2, va_rf, Value.category, catS, List.length_cons, List.length_nil, List.map_cons, List.map_nil, List.sum_cons, List.sum_nil, List.take_succ_cons, List.take_zero, List.drop_succ_cons, List.drop_zero, List.reverse_cons, List.reverse_nil, List.nil_append, List.cons_append, true_and, and_true, if_true, Nat.reduceAdd, Nat.reduceLT, Nat.reduceLeDiff, h1, h2, h4, h5, nI_leI (show n < 2 ^ 31 by omega) (show j < 2 ^ 31 by omega)]
    refine ⟨fun c => absurd c (by omega), fun _ => ⟨⟨p, _, rfl, rfl, h1, h2⟩, sp_byteAt hR (by omega) ?_⟩⟩
    simp only [behind, e_X3_skipSpaces_1, e_X3_skipSpaces_4, e_X3_skipSpaces_5, e_X3_skipSpaces_8, e_X3_skipSpaces_11, e_X3_skipSpaces_12, e_X3_skipSpaces_13, e_X3_skipSpaces_16, e_X3_skipSpaces_19, e_X3_skipSpaces_21, e_X3_skipSpaces_24, e_X3_skipSpaces_25, e_X3_skipSpaces_26, e_X3_skipSpaces_29, e_X3_skipSpaces_30, e_X3_skipSpaces_31, e_X3_skipSpaces_34, e_X3_skipSpaces_37, o_const, o_iload, o_aload, o_fload, o_dload, o_istore, o_astore, o_fstore, o_dstore, o_iinc, o_bin, o_div, o_un, o_i2l, o_i2f, o_i2d, o_f2d, o_fdiv, o_ddiv, o_lcmp, o_fcmp, o_dcmp, o_if, o_if2, o_goto, o_dup, o_dupx1, o_dup2, o_pop, o_getI, o_getR, o_putI, o_putR, o_iald, o_iast, o_bald, o_bast, o_zald, o_zast, o_aald, o_aast, o_jald, o_jast, o_dald, o_dast, o_alen, o_castA, o_new, o_newa, o_callv, o_callvN, o_calli, o_calls, o_objinit, o_iret, o_zret, o_fret, o_dret, o_aret, o_vret, o_throw, o_acopy, o_bcopy, o_clone, o_tsw, o_ldcS, o_kval, o_kcoder, o_klen, o_kald, o_tald, o_getSq, o_callk, o_callvH, gl, stl, stl2, pre2, va_rf, Value.category, catS, List.length_cons, List.length_nil, List.map_cons, List.map_nil, List.sum_cons, List.sum_nil, List.take_succ_cons, List.take_zero, List.drop_succ_cons, List.drop_zero, List.reverse_cons, List.reverse_nil, List.nil_append, List.cons_append, true_and, and_true, if_true, Nat.reduceAdd, Nat.reduceLT, Nat.reduceLeDiff, h1, h2, h4, h5, nI_1, gL_sW, gL_sI, gL_sR, gL_sC, gL_nW, gK_sW, gK_sI, gK_sR, gK_sC, gK_nW, gN_sW, gN_sI, gN_sR, gN_sC, gN_nW, gC_sW, gC_sI, gC_sR, gC_sC, gC_nW, gZ_sW, gZ_sI, gZ_sR, gZ_sC, gZ_nW, narI, eb]
    refine ⟨fun c => ?_, fun c => ?_⟩
    · rw [if_neg c] at e
      refine h S' (by rw [← he, e]; exact hR) hF
    · rw [if_pos (Classical.not_not.mp c)] at e
      refine ih (j + 1) _ (by omega) (by rw [← e]; exact he) (hR.k (by omega)) ((hF.trans (Fr.sI S' 5 p 2 (nI (j + 1)))).mono (fun _ _ _ w => w.elim id id) (by decide) (by decide))
theorem sp_skipSpaces (hR : RdR S p tk T n k s nu er ep) (h : ∀ S', RdR S' p tk T n (skp T n k) s nu er ep → Fr S S' (RdA p) 0 0 → Q (.inl none) S') : WG ks (d + 2) n_X3_skipSpaces [.ref p] S Q := by
  refine ⟨by simp [cat1, Value.category], by show (1 : Nat) ≤ 1; decide, ?_⟩
  show Run ks (WG ks (d + 1)) Q tb_X3_skipSpaces 0 [some (.ref p)] [] S
  have hk : k ≤ n := by obtain ⟨_, _, _, _, _, _, _, _, _, _, _, w, _⟩ := hR; exact w.2
  exact sp_skip_lp h (n - k) k S (by omega) rfl hR ((Fr.rf S).mono (fun _ _ _ w => w.elim) (by decide) (by decide))
theorem sp_isAt (hR : RdR S p tk T n k s nu er ep) {c : Int32} (h : ∀ S', RdR S' p tk T n (skp T n k) s nu er ep → Fr S S' (RdA p) 0 0 → (byI T n (skp T n k) = c → Q (.inl (some (.int 1))) S') ∧ (¬ byI T n (skp T n k) = c → Q (.inl (some (.int 0))) S')) : WG ks (d + 3) n_X3_isAt [.ref p, .int c] S Q := by
  refine ⟨by simp [cat1, Value.category], by show (2 : Nat) ≤ 2; decide, ?_⟩
  show Run ks (WG ks (d + 2)) Q tb_X3_isAt 0 [some (.ref p), some (.int c)] [] S
  have hRc := hR
  obtain ⟨t, h1, h2, h3, h4, h5, h6, h7, h8, h9, ⟨t1, t2, t3, t4⟩, h10, h11⟩ := hRc
  have hs := skp_le (T := T) h10.2
  simp only [e_X3_isAt_0, e_X3_isAt_1, e_X3_isAt_4, e_X3_isAt_5, e_X3_isAt_6, e_X3_isAt_9, e_X3_isAt_12, e_X3_isAt_13, e_X3_isAt_16, e_X3_isAt_17, e_X3_isAt_20, e_X3_isAt_21, o_const, o_iload, o_aload, o_fload, o_dload, o_istore, o_astore, o_fstore, o_dstore, o_iinc, o_bin, o_div, o_un, o_i2l, o_i2f, o_i2d, o_f2d, o_fdiv, o_ddiv, o_lcmp, o_fcmp, o_dcmp, o_if, o_if2, o_goto, o_dup, o_dupx1, o_dup2, o_pop, o_getI, o_getR, o_putI, o_putR, o_iald, o_iast, o_bald, o_bast, o_zald, o_zast, o_aald, o_aast, o_jald, o_jast, o_dald, o_dast, o_alen, o_castA, o_new, o_newa, o_callv, o_callvN, o_calli, o_calls, o_objinit, o_iret, o_zret, o_fret, o_dret, o_aret, o_vret, o_throw, o_acopy, o_bcopy, o_clone, o_tsw, o_ldcS, o_kval, o_kcoder, o_klen, o_kald, o_tald, o_getSq, o_callk, o_callvH, gl, stl, stl2, pre2, va_rf, Value.category, catS, List.length_cons, List.length_nil, List.map_cons, List.map_nil, List.sum_cons, List.sum_nil, List.take_succ_cons, List.take_zero, List.drop_succ_cons, List.drop_zero, List.reverse_cons, List.reverse_nil, List.nil_append, List.cons_append, true_and, and_true, if_true, Nat.reduceAdd, Nat.reduceLT, Nat.reduceLeDiff, h1, h2]
  refine ⟨⟨p, _, rfl, rfl, h1, h2⟩, sp_skipSpaces hR ?_⟩
  intro S1 hR1 F1
  have hh := h S1 hR1 F1
  have hRd := hR1
  obtain ⟨t', g1, g2, g3, g4, g5, -⟩ := hRd
  simp only [behind, e_X3_isAt_0, e_X3_isAt_1, e_X3_isAt_4, e_X3_isAt_5, e_X3_isAt_6, e_X3_isAt_9, e_X3_isAt_12, e_X3_isAt_13, e_X3_isAt_16, e_X3_isAt_17, e_X3_isAt_20, e_X3_isAt_21, o_const, o_iload, o_aload, o_fload, o_dload, o_istore, o_astore, o_fstore, o_dstore, o_iinc, o_bin, o_div, o_un, o_i2l, o_i2f, o_i2d, o_f2d, o_fdiv, o_ddiv, o_lcmp, o_fcmp, o_dcmp, o_if, o_if2, o_goto, o_dup, o_dupx1, o_dup2, o_pop, o_getI, o_getR, o_putI, o_putR, o_iald, o_iast, o_bald, o_bast, o_zald, o_zast, o_aald, o_aast, o_jald, o_jast, o_dald, o_dast, o_alen, o_castA, o_new, o_newa, o_callv, o_callvN, o_calli, o_calls, o_objinit, o_iret, o_zret, o_fret, o_dret, o_aret, o_vret, o_throw, o_acopy, o_bcopy, o_clone, o_tsw, o_ldcS, o_kval, o_kcoder, o_klen, o_kald, o_tald, o_getSq, o_callk, o_callvH, gl, stl, stl2, pre2, va_rf, Value.category, catS, List.length_cons, List.length_nil, List.map_cons, List.map_nil, List.sum_cons, List.sum_nil, List.take_succ_cons, List.take_zero, List.drop_succ_cons, List.drop_zero, List.reverse_cons, List.reverse_nil, List.nil_append, List.cons_append, true_and, and_true, if_true, Nat.reduceAdd, Nat.reduceLT, Nat.reduceLeDiff, g1, g2, g5]
  refine ⟨⟨p, _, rfl, rfl, g1, g2⟩, sp_byteAt hR1 (by omega) ?_⟩
  simp only [behind, e_X3_isAt_0, e_X3_isAt_1, e_X3_isAt_4, e_X3_isAt_5, e_X3_isAt_6, e_X3_isAt_9, e_X3_isAt_12, e_X3_isAt_13, e_X3_isAt_16, e_X3_isAt_17, e_X3_isAt_20, e_X3_isAt_21, o_const, o_iload, o_aload, o_fload, o_dload, o_istore, o_astore, o_fstore, o_dstore, o_iinc, o_bin, o_div, o_un, o_i2l, o_i2f, o_i2d, o_f2d, o_fdiv, o_ddiv, o_lcmp, o_fcmp, o_dcmp, o_if, o_if2, o_goto, o_dup, o_dupx1, o_dup2, o_pop, o_getI, o_getR, o_putI, o_putR, o_iald, o_iast, o_bald, o_bast, o_zald, o_zast, o_aald, o_aast, o_jald, o_jast, o_dald, o_dast, o_alen, o_castA, o_new, o_newa, o_callv, o_callvN, o_calli, o_calls, o_objinit, o_iret, o_zret, o_fret, o_dret, o_aret, o_vret, o_throw, o_acopy, o_bcopy, o_clone, o_tsw, o_ldcS, o_kval, o_kcoder, o_klen, o_kald, o_tald, o_getSq, o_callk, o_callvH, gl, stl, stl2, pre2, va_rf, Value.category, catS, List.length_cons, List.length_nil, List.map_cons, List.map_nil, List.sum_cons, List.sum_nil, List.take_succ_cons, List.take_zero, List.drop_succ_cons, List.drop_zero, List.reverse_cons, List.reverse_nil, List.nil_append, List.cons_append, true_and, and_true, if_true, Nat.reduceAdd, Nat.reduceLT, Nat.reduceLeDiff]
  exact ⟨fun c1 => ⟨rfl, hh.2 c1⟩, fun c1 => ⟨rfl, hh.1 (Classical.not_not.mp c1)⟩⟩
end SPS
