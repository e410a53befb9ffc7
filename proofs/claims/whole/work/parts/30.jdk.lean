/-! THE JDK'S LEAVES, pure -/
section MEMX
theorem u3_u3 {α : Type} (f : Nat → Nat → α) (t a : Nat) (x y : α) : u3 (u3 f t a x) t a y = u3 f t a y := by
  funext t' a'
  simp only [u3]
  by_cases h : t' = t ∧ a' = a
  · rw [if_pos h, if_pos h]
  · rw [if_neg h, if_neg h, if_neg h]
theorem u3_self {α : Type} (f : Nat → Nat → α) (t a : Nat) : u3 f t a (f t a) = f := by
  funext t' a'
  simp only [u3]
  by_cases h : t' = t ∧ a' = a
  · rw [if_pos h, h.1, h.2]
  · rw [if_neg h]
theorem sI_W (S : M9) (t a k : Nat) (v : Int32) : sI S t a k v = sW S t a (va_up (gI S t a) k v) := rfl
theorem sW_sW (S : M9) (t a : Nat) (f g : Nat → Int32) : sW (sW S t a f) t a g = sW S t a g := by
  simp only [sW, u3_u3]
theorem sW_self (S : M9) (t a : Nat) : sW S t a (gI S t a) = S := by
  simp only [sW, gI, u3_self]
theorem gI_W (S : M9) (t a : Nat) (f : Nat → Int32) : gI (sW S t a f) t a = f := by rw [gI_sW, if_pos ⟨rfl, rfl⟩]
end MEMX
section SPJ
variable {ks : Nat → Nat} {d : Nat} {Q : QP} {S : M9}
theorem sp_max {x y : Int32} (h : Q (.inl (some (.int (if x < y then y else x)))) S) : WG ks (d + 1) n_J9_max_7cf53 [.int x, .int y] S Q := by
  refine ⟨by simp [cat1, Value.category], by show (2 : Nat) ≤ 2; decide, ?_⟩
  show Run ks (WG ks d) Q tb_J9_max_7cf53 0 [some (.int x), some (.int y)] [] S
  simp only [e_J9_max_7cf53_0, e_J9_max_7cf53_1, e_J9_max_7cf53_2, e_J9_max_7cf53_5, e_J9_max_7cf53_6, e_J9_max_7cf53_9, e_J9_max_7cf53_10, o_const, o_iload, o_aload, o_fload, o_dload, o_istore, o_astore, o_fstore, o_dstore, o_iinc, o_bin, o_div, o_un, o_i2l, o_i2f, o_i2d, o_f2d, o_fdiv, o_ddiv, o_lcmp, o_fcmp, o_dcmp, o_if, o_if2, o_goto, o_dup, o_dupx1, o_dup2, o_pop, o_getI, o_getR, o_putI, o_putR, o_iald, o_iast, o_bald, o_bast, o_zald, o_zast, o_aald, o_aast, o_jald, o_jast, o_dald, o_dast, o_alen, o_castA, o_new, o_newa, o_callv, o_callvN, o_calli, o_calls, o_objinit, o_iret, o_zret, o_fret, o_dret, o_aret, o_vret, o_throw, o_acopy, o_bcopy, o_clone, o_tsw, o_ldcS, o_kval, o_kcoder, o_klen, o_kald, o_tald, o_getSq, o_callk, o_callvH, gl, stl, stl2, pre2, va_rf, Value.category, catS, List.length_cons, List.length_nil, List.map_cons, List.map_nil, List.sum_cons, List.sum_nil, List.take_succ_cons, List.take_zero, List.drop_succ_cons, List.drop_zero, List.reverse_cons, List.reverse_nil, List.nil_append, List.cons_append, true_and, and_true, Nat.reduceAdd, Nat.reduceLT, Nat.reduceLeDiff]
  refine ⟨fun c => ?_, fun c => ?_⟩
  · rw [if_pos c] at h; exact h
  · rw [if_neg c] at h; exact h
theorem sp_min {x y : Int32} (h : Q (.inl (some (.int (if y < x then y else x)))) S) : WG ks (d + 1) n_J9_min_7cf53 [.int x, .int y] S Q := by
  refine ⟨by simp [cat1, Value.category], by show (2 : Nat) ≤ 2; decide, ?_⟩
  show Run ks (WG ks d) Q tb_J9_min_7cf53 0 [some (.int x), some (.int y)] [] S
  simp only [e_J9_min_7cf53_0, e_J9_min_7cf53_1, e_J9_min_7cf53_2, e_J9_min_7cf53_5, e_J9_min_7cf53_6, e_J9_min_7cf53_9, e_J9_min_7cf53_10, o_const, o_iload, o_aload, o_fload, o_dload, o_istore, o_astore, o_fstore, o_dstore, o_iinc, o_bin, o_div, o_un, o_i2l, o_i2f, o_i2d, o_f2d, o_fdiv, o_ddiv, o_lcmp, o_fcmp, o_dcmp, o_if, o_if2, o_goto, o_dup, o_dupx1, o_dup2, o_pop, o_getI, o_getR, o_putI, o_putR, o_iald, o_iast, o_bald, o_bast, o_zald, o_zast, o_aald, o_aast, o_jald, o_jast, o_dald, o_dast, o_alen, o_castA, o_new, o_newa, o_callv, o_callvN, o_calli, o_calls, o_objinit, o_iret, o_zret, o_fret, o_dret, o_aret, o_vret, o_throw, o_acopy, o_bcopy, o_clone, o_tsw, o_ldcS, o_kval, o_kcoder, o_klen, o_kald, o_tald, o_getSq, o_callk, o_callvH, gl, stl, stl2, pre2, va_rf, Value.category, catS, List.length_cons, List.length_nil, List.map_cons, List.map_nil, List.sum_cons, List.sum_nil, List.take_succ_cons, List.take_zero, List.drop_succ_cons, List.drop_zero, List.reverse_cons, List.reverse_nil, List.nil_append, List.cons_append, true_and, and_true, Nat.reduceAdd, Nat.reduceLT, Nat.reduceLeDiff]
  refine ⟨fun c => ?_, fun c => ?_⟩
  · rw [if_pos c] at h; exact h
  · rw [if_neg c] at h; exact h
theorem sp_abs {x : Int32} (h : Q (.inl (some (.int (if 0 ≤ x then x else -x)))) S) : WG ks (d + 1) n_J9_abs_0f7a4 [.int x] S Q := by
  refine ⟨by simp [cat1, Value.category], by show (1 : Nat) ≤ 1; decide, ?_⟩
  show Run ks (WG ks d) Q tb_J9_abs_0f7a4 0 [some (.int x)] [] S
  simp only [e_J9_abs_0f7a4_0, e_J9_abs_0f7a4_1, e_J9_abs_0f7a4_4, e_J9_abs_0f7a4_5, e_J9_abs_0f7a4_6, e_J9_abs_0f7a4_9, e_J9_abs_0f7a4_10, o_const, o_iload, o_aload, o_fload, o_dload, o_istore, o_astore, o_fstore, o_dstore, o_iinc, o_bin, o_div, o_un, o_i2l, o_i2f, o_i2d, o_f2d, o_fdiv, o_ddiv, o_lcmp, o_fcmp, o_dcmp, o_if, o_if2, o_goto, o_dup, o_dupx1, o_dup2, o_pop, o_getI, o_getR, o_putI, o_putR, o_iald, o_iast, o_bald, o_bast, o_zald, o_zast, o_aald, o_aast, o_jald, o_jast, o_dald, o_dast, o_alen, o_castA, o_new, o_newa, o_callv, o_callvN, o_calli, o_calls, o_objinit, o_iret, o_zret, o_fret, o_dret, o_aret, o_vret, o_throw, o_acopy, o_bcopy, o_clone, o_tsw, o_ldcS, o_kval, o_kcoder, o_klen, o_kald, o_tald, o_getSq, o_callk, o_callvH, gl, stl, stl2, pre2, va_rf, Value.category, catS, List.length_cons, List.length_nil, List.map_cons, List.map_nil, List.sum_cons, List.sum_nil, List.take_succ_cons, List.take_zero, List.drop_succ_cons, List.drop_zero, List.reverse_cons, List.reverse_nil, List.nil_append, List.cons_append, true_and, and_true, Nat.reduceAdd, Nat.reduceLT, Nat.reduceLeDiff]
  refine ⟨fun c => ?_, fun c => ?_⟩
  · rw [if_pos c] at h; exact h
  · rw [if_neg c] at h; exact h
def fmI (x y : Int32) : Int32 := if 0 ≤ x ^^^ y then x - x / y * y else if x - x / y * y = 0 then x - x / y * y else x - x / y * y + y
def fdI (x y : Int32) : Int32 := if 0 ≤ x ^^^ y then x / y else if x / y * y = x then x / y else x / y - 1
theorem sp_floorMod {x y : Int32} (hy : ¬ y = 0) (h : Q (.inl (some (.int (fmI x y)))) S) : WG ks (d + 1) n_J9_floorMod_7cf53 [.int x, .int y] S Q := by
  refine ⟨by simp [cat1, Value.category], by show (2 : Nat) ≤ 3; decide, ?_⟩
  show Run ks (WG ks d) Q tb_J9_floorMod_7cf53 0 [some (.int x), some (.int y), none] [] S
  simp only [e_J9_floorMod_7cf53_0, e_J9_floorMod_7cf53_1, e_J9_floorMod_7cf53_2, e_J9_floorMod_7cf53_3, e_J9_floorMod_7cf53_4, e_J9_floorMod_7cf53_5, e_J9_floorMod_7cf53_6, e_J9_floorMod_7cf53_7, e_J9_floorMod_7cf53_10, e_J9_floorMod_7cf53_11, e_J9_floorMod_7cf53_14, e_J9_floorMod_7cf53_15, e_J9_floorMod_7cf53_16, e_J9_floorMod_7cf53_17, e_J9_floorMod_7cf53_18, e_J9_floorMod_7cf53_19, o_const, o_iload, o_aload, o_fload, o_dload, o_istore, o_astore, o_fstore, o_dstore, o_iinc, o_bin, o_div, o_un, o_i2l, o_i2f, o_i2d, o_f2d, o_fdiv, o_ddiv, o_lcmp, o_fcmp, o_dcmp, o_if, o_if2, o_goto, o_dup, o_dupx1, o_dup2, o_pop, o_getI, o_getR, o_putI, o_putR, o_iald, o_iast, o_bald, o_bast, o_zald, o_zast, o_aald, o_aast, o_jald, o_jast, o_dald, o_dast, o_alen, o_castA, o_new, o_newa, o_callv, o_callvN, o_calli, o_calls, o_objinit, o_iret, o_zret, o_fret, o_dret, o_aret, o_vret, o_throw, o_acopy, o_bcopy, o_clone, o_tsw, o_ldcS, o_kval, o_kcoder, o_klen, o_kald, o_tald, o_getSq, o_callk, o_callvH, gl, stl, stl2, pre2, va_rf, Value.category, catS, List.length_cons, List.length_nil, List.map_cons, List.map_nil, List.sum_cons, List.sum_nil, List.take_succ_cons, List.take_zero, List.drop_succ_cons, List.drop_zero, List.reverse_cons, List.reverse_nil, List.nil_append, List.cons_append, true_and, and_true, Nat.reduceAdd, Nat.reduceLT, Nat.reduceLeDiff]
  unfold fmI at h
  refine ⟨hy, fun c => ?_, fun c => ⟨fun c2 => ?_, fun c2 => ?_⟩⟩
  · rw [if_pos c] at h; exact h
  · rw [if_neg c, if_pos c2] at h; exact h
  · rw [if_neg c, if_neg c2] at h; exact h
theorem sp_floorDiv {x y : Int32} (hy : ¬ y = 0) (h : Q (.inl (some (.int (fdI x y)))) S) : WG ks (d + 1) n_J9_floorDiv_7cf53 [.int x, .int y] S Q := by
  refine ⟨by simp [cat1, Value.category], by show (2 : Nat) ≤ 3; decide, ?_⟩
  show Run ks (WG ks d) Q tb_J9_floorDiv_7cf53 0 [some (.int x), some (.int y), none] [] S
  simp only [e_J9_floorDiv_7cf53_0, e_J9_floorDiv_7cf53_1, e_J9_floorDiv_7cf53_2, e_J9_floorDiv_7cf53_3, e_J9_floorDiv_7cf53_4, e_J9_floorDiv_7cf53_5, e_J9_floorDiv_7cf53_6, e_J9_floorDiv_7cf53_7, e_J9_floorDiv_7cf53_10, e_J9_floorDiv_7cf53_11, e_J9_floorDiv_7cf53_12, e_J9_floorDiv_7cf53_13, e_J9_floorDiv_7cf53_14, e_J9_floorDiv_7cf53_17, e_J9_floorDiv_7cf53_18, e_J9_floorDiv_7cf53_19, e_J9_floorDiv_7cf53_20, e_J9_floorDiv_7cf53_21, e_J9_floorDiv_7cf53_22, o_const, o_iload, o_aload, o_fload, o_dload, o_istore, o_astore, o_fstore, o_dstore, o_iinc, o_bin, o_div, o_un, o_i2l, o_i2f, o_i2d, o_f2d, o_fdiv, o_ddiv, o_lcmp, o_fcmp, o_dcmp, o_if, o_if2, o_goto, o_dup, o_dupx1, o_dup2, o_pop, o_getI, o_getR, o_putI, o_putR, o_iald, o_iast, o_bald, o_bast, o_zald, o_zast, o_aald, o_aast, o_jald, o_jast, o_dald, o_dast, o_alen, o_castA, o_new, o_newa, o_callv, o_callvN, o_calli, o_calls, o_objinit, o_iret, o_zret, o_fret, o_dret, o_aret, o_vret, o_throw, o_acopy, o_bcopy, o_clone, o_tsw, o_ldcS, o_kval, o_kcoder, o_klen, o_kald, o_tald, o_getSq, o_callk, o_callvH, gl, stl, stl2, pre2, va_rf, Value.category, catS, List.length_cons, List.length_nil, List.map_cons, List.map_nil, List.sum_cons, List.sum_nil, List.take_succ_cons, List.take_zero, List.drop_succ_cons, List.drop_zero, List.reverse_cons, List.reverse_nil, List.nil_append, List.cons_append, true_and, and_true, Nat.reduceAdd, Nat.reduceLT, Nat.reduceLeDiff]
  unfold fdI at h
  refine ⟨hy, fun c => ?_, fun c => ⟨fun c2 => ?_, fun c2 => ?_⟩⟩
  · rw [if_pos c] at h; exact h
  · rw [if_neg c, if_pos c2] at h; exact h
  · rw [if_neg c, if_neg c2] at h; exact h
/-- a row's first k places are v -/
def flr (f : Nat → Int32) (v : Int32) (k : Nat) : Nat → Int32 := fun j => if j < k then v else f j
theorem flr_0 (f : Nat → Int32) (v : Int32) : flr f v 0 = f := by funext j; simp [flr]
theorem flr_up (f : Nat → Int32) (v : Int32) (k : Nat) : va_up (flr f v k) k v = flr f v (k + 1) := by
  funext j
  simp only [va_up, flr]
  by_cases h : j = k
  · subst h; simp
  · by_cases h2 : j < k
    · simp [h, h2, Nat.lt_succ_of_lt h2]
    · have : ¬ j < k + 1 := by omega
      simp [h, h2, this]
theorem sp_fill_loop {a t N : Nat} {v : Int32} (ha : a ∈ gL S) (ht : gK S a = t) (h17 : 17 ≤ t) (hN : gN S a = N) (hNb : N < 2 ^ 31) (h : Q (.inl none) (sW S t a (flr (gI S t a) v N))) : ∀ k j, j + k = N → Run ks (WG ks d) Q tb_J7_fill_53178 5 [some (.ref a), some (.int v), some (.int (nI j)), some (.int (nI N))] [] (sW S t a (flr (gI S t a) v j)) := by
  intro k
  induction k with
  | zero =>
    intro j hj
    rw [e_J7_fill_53178_5]
    simp only [e_J7_fill_53178_0, e_J7_fill_53178_1, e_J7_fill_53178_2, e_J7_fill_53178_3, e_J7_fill_53178_4, e_J7_fill_53178_6, e_J7_fill_53178_7, e_J7_fill_53178_10, e_J7_fill_53178_11, e_J7_fill_53178_12, e_J7_fill_53178_13, e_J7_fill_53178_14, e_J7_fill_53178_17, e_J7_fill_53178_20, o_const, o_iload, o_aload, o_fload, o_dload, o_istore, o_astore, o_fstore, o_dstore, o_iinc, o_bin, o_div, o_un, o_i2l, o_i2f, o_i2d, o_f2d, o_fdiv, o_ddiv, o_lcmp, o_fcmp, o_dcmp, o_if, o_if2, o_goto, o_dup, o_dupx1, o_dup2, o_pop, o_getI, o_getR, o_putI, o_putR, o_iald, o_iast, o_bald, o_bast, o_zald, o_zast, o_aald, o_aast, o_jald, o_jast, o_dald, o_dast, o_alen, o_castA, o_new, o_newa, o_callv, o_callvN, o_calli, o_calls, o_objinit, o_iret, o_zret, o_fret, o_dret, o_aret, o_vret, o_throw, o_acopy, o_bcopy, o_clone, o_tsw, o_ldcS, o_kval, o_kcoder, o_klen, o_kald, o_tald, o_getSq, o_callk, o_callvH, gl, stl, stl2, pre2, va_rf, Value.category, catS, List.length_cons, List.length_nil, List.map_cons, List.map_nil, List.sum_cons, List.sum_nil, List.take_succ_cons, List.take_zero, List.drop_succ_cons, List.drop_zero, List.reverse_cons, List.reverse_nil, List.nil_append, List.cons_append, true_and, and_true, Nat.reduceAdd, Nat.reduceLT, Nat.reduceLeDiff, gL_sW, gK_sW, gN_sW, ht]
    have : j = N := by omega
    subst this
    exact ⟨fun _ => h, fun c => (c (by rw [nI_leI hNb hNb]; exact Nat.le_refl _)).elim⟩
  | succ k ih =>
    intro j hj
    rw [e_J7_fill_53178_5]
    simp only [e_J7_fill_53178_0, e_J7_fill_53178_1, e_J7_fill_53178_2, e_J7_fill_53178_3, e_J7_fill_53178_4, e_J7_fill_53178_6, e_J7_fill_53178_7, e_J7_fill_53178_10, e_J7_fill_53178_11, e_J7_fill_53178_12, e_J7_fill_53178_13, e_J7_fill_53178_14, e_J7_fill_53178_17, e_J7_fill_53178_20, o_const, o_iload, o_aload, o_fload, o_dload, o_istore, o_astore, o_fstore, o_dstore, o_iinc, o_bin, o_div, o_un, o_i2l, o_i2f, o_i2d, o_f2d, o_fdiv, o_ddiv, o_lcmp, o_fcmp, o_dcmp, o_if, o_if2, o_goto, o_dup, o_dupx1, o_dup2, o_pop, o_getI, o_getR, o_putI, o_putR, o_iald, o_iast, o_bald, o_bast, o_zald, o_zast, o_aald, o_aast, o_jald, o_jast, o_dald, o_dast, o_alen, o_castA, o_new, o_newa, o_callv, o_callvN, o_calli, o_calls, o_objinit, o_iret, o_zret, o_fret, o_dret, o_aret, o_vret, o_throw, o_acopy, o_bcopy, o_clone, o_tsw, o_ldcS, o_kval, o_kcoder, o_klen, o_kald, o_tald, o_getSq, o_callk, o_callvH, gl, stl, stl2, pre2, va_rf, Value.category, catS, List.length_cons, List.length_nil, List.map_cons, List.map_nil, List.sum_cons, List.sum_nil, List.take_succ_cons, List.take_zero, List.drop_succ_cons, List.drop_zero, List.reverse_cons, List.reverse_nil, List.nil_append, List.cons_append, true_and, and_true, Nat.reduceAdd, Nat.reduceLT, Nat.reduceLeDiff, gL_sW, gK_sW, gN_sW, ht, hN]
    have hjN : j < N := by omega
    refine ⟨fun c => absurd ((nI_leI hNb (by omega)).mp c) (by omega), fun _ => ⟨ha, h17, vp_in_nI hjN hNb, ?_⟩⟩
    rw [sI_W, gI_W, sW_sW, nI_clamp (by omega), flr_up, nI_1]
    exact ih (j + 1) (by omega)
theorem sp_fill {a t N : Nat} {v : Int32} (ha : a ∈ gL S) (ht : gK S a = t) (h17 : 17 ≤ t) (hN : gN S a = N) (hNb : N < 2 ^ 31) (h : Q (.inl none) (sW S t a (flr (gI S t a) v N))) : WG ks (d + 1) n_J7_fill_53178 [.ref a, .int v] S Q := by
  refine ⟨by simp [cat1, Value.category], by show (2 : Nat) ≤ 4; decide, ?_⟩
  show Run ks (WG ks d) Q tb_J7_fill_53178 0 [some (.ref a), some (.int v), none, none] [] S
  simp only [e_J7_fill_53178_0, e_J7_fill_53178_1, e_J7_fill_53178_2, e_J7_fill_53178_3, e_J7_fill_53178_4, e_J7_fill_53178_6, e_J7_fill_53178_7, e_J7_fill_53178_10, e_J7_fill_53178_11, e_J7_fill_53178_12, e_J7_fill_53178_13, e_J7_fill_53178_14, e_J7_fill_53178_17, e_J7_fill_53178_20, o_const, o_iload, o_aload, o_fload, o_dload, o_istore, o_astore, o_fstore, o_dstore, o_iinc, o_bin, o_div, o_un, o_i2l, o_i2f, o_i2d, o_f2d, o_fdiv, o_ddiv, o_lcmp, o_fcmp, o_dcmp, o_if, o_if2, o_goto, o_dup, o_dupx1, o_dup2, o_pop, o_getI, o_getR, o_putI, o_putR, o_iald, o_iast, o_bald, o_bast, o_zald, o_zast, o_aald, o_aast, o_jald, o_jast, o_dald, o_dast, o_alen, o_castA, o_new, o_newa, o_callv, o_callvN, o_calli, o_calls, o_objinit, o_iret, o_zret, o_fret, o_dret, o_aret, o_vret, o_throw, o_acopy, o_bcopy, o_clone, o_tsw, o_ldcS, o_kval, o_kcoder, o_klen, o_kald, o_tald, o_getSq, o_callk, o_callvH, gl, stl, stl2, pre2, va_rf, Value.category, catS, List.length_cons, List.length_nil, List.map_cons, List.map_nil, List.sum_cons, List.sum_nil, List.take_succ_cons, List.take_zero, List.drop_succ_cons, List.drop_zero, List.reverse_cons, List.reverse_nil, List.nil_append, List.cons_append, true_and, and_true, Nat.reduceAdd, Nat.reduceLT, Nat.reduceLeDiff, ht, hN]
  have := sp_fill_loop (ks := ks) (d := d) (Q := Q) ha ht h17 hN hNb h N 0 (by omega)
  rw [flr_0, sW_self] at this
  exact ⟨ha, by omega, this⟩
theorem sp_copyOf {a ta t N n : Nat} (ha : a ∈ gL S) (ht : gK S a = ta) (h17 : 17 ≤ ta) (ht17 : 17 ≤ t) (hN : gN S a = N) (hn : N < n) (hnb : n ≤ 1000000) (hc : gC S + 1 ≤ cCM) (hz : gZ S + n ≤ cSM) (h : ∀ b, b ∉ gL S → Q (.inl (some (.ref b))) (sW (nW S t b n n) t b (va_cpy (gI S ta a) (fun _ => 0) 0 0 N))) : WG ks (d + 2) n_J7_copyOf_59c91 [.ref a, .int (nI n)] S Q := by
  refine ⟨by simp [cat1, Value.category], by show (2 : Nat) ≤ 3; decide, ?_⟩
  show Run ks (WG ks (d + 1)) Q tb_J7_copyOf_59c91 0 [some (.ref a), some (.int (nI n)), none] [] S
  simp only [e_J7_copyOf_59c91_0, e_J7_copyOf_59c91_1, e_J7_copyOf_59c91_2, e_J7_copyOf_59c91_3, e_J7_copyOf_59c91_6, e_J7_copyOf_59c91_7, e_J7_copyOf_59c91_10, e_J7_copyOf_59c91_13, e_J7_copyOf_59c91_14, e_J7_copyOf_59c91_15, e_J7_copyOf_59c91_17, e_J7_copyOf_59c91_18, e_J7_copyOf_59c91_19, e_J7_copyOf_59c91_20, e_J7_copyOf_59c91_21, e_J7_copyOf_59c91_22, e_J7_copyOf_59c91_23, e_J7_copyOf_59c91_24, e_J7_copyOf_59c91_25, e_J7_copyOf_59c91_28, e_J7_copyOf_59c91_31, e_J7_copyOf_59c91_32, o_const, o_iload, o_aload, o_fload, o_dload, o_istore, o_astore, o_fstore, o_dstore, o_iinc, o_bin, o_div, o_un, o_i2l, o_i2f, o_i2d, o_f2d, o_fdiv, o_ddiv, o_lcmp, o_fcmp, o_dcmp, o_if, o_if2, o_goto, o_dup, o_dupx1, o_dup2, o_pop, o_getI, o_getR, o_putI, o_putR, o_iald, o_iast, o_bald, o_bast, o_zald, o_zast, o_aald, o_aast, o_jald, o_jast, o_dald, o_dast, o_alen, o_castA, o_new, o_newa, o_callv, o_callvN, o_calli, o_calls, o_objinit, o_iret, o_zret, o_fret, o_dret, o_aret, o_vret, o_throw, o_acopy, o_bcopy, o_clone, o_tsw, o_ldcS, o_kval, o_kcoder, o_klen, o_kald, o_tald, o_getSq, o_callk, o_callvH, gl, stl, stl2, pre2, va_rf, Value.category, catS, List.length_cons, List.length_nil, List.map_cons, List.map_nil, List.sum_cons, List.sum_nil, List.take_succ_cons, List.take_zero, List.drop_succ_cons, List.drop_zero, List.reverse_cons, List.reverse_nil, List.nil_append, List.cons_append, true_and, and_true, Nat.reduceAdd, Nat.reduceLT, Nat.reduceLeDiff, ht, hN]
  have hne : ¬ nI n = nI N := fun e => absurd ((nI_eq (by omega) (by omega)).mp e) (by omega)
  refine ⟨ha, by omega, fun _ => ⟨nI_pos (by omega), by rw [nI_clamp (by omega)]; exact hnb, hc, by rw [nI_clamp (by omega)]; exact hz, t, ht17, fun b hb => ?_⟩, fun c => (c hne).elim⟩
  rw [nI_clamp (by omega)]
  have hab : ¬ a = b := fun e => hb (e ▸ ha)
  have hba : b ∈ gL S ++ [b] := List.mem_append_right _ List.mem_cons_self
  simp only [gL_nW, gK_nW, gN_nW, if_neg hab, ht, hN]
  refine ⟨List.mem_append_left _ ha, by omega, sp_min ?_⟩
  rw [if_neg (fun c => absurd ((nI_ltI (by omega) (by omega)).mp c) (by omega))]
  simp only [behind, e_J7_copyOf_59c91_0, e_J7_copyOf_59c91_1, e_J7_copyOf_59c91_2, e_J7_copyOf_59c91_3, e_J7_copyOf_59c91_6, e_J7_copyOf_59c91_7, e_J7_copyOf_59c91_10, e_J7_copyOf_59c91_13, e_J7_copyOf_59c91_14, e_J7_copyOf_59c91_15, e_J7_copyOf_59c91_17, e_J7_copyOf_59c91_18, e_J7_copyOf_59c91_19, e_J7_copyOf_59c91_20, e_J7_copyOf_59c91_21, e_J7_copyOf_59c91_22, e_J7_copyOf_59c91_23, e_J7_copyOf_59c91_24, e_J7_copyOf_59c91_25, e_J7_copyOf_59c91_28, e_J7_copyOf_59c91_31, e_J7_copyOf_59c91_32, o_const, o_iload, o_aload, o_fload, o_dload, o_istore, o_astore, o_fstore, o_dstore, o_iinc, o_bin, o_div, o_un, o_i2l, o_i2f, o_i2d, o_f2d, o_fdiv, o_ddiv, o_lcmp, o_fcmp, o_dcmp, o_if, o_if2, o_goto, o_dup, o_dupx1, o_dup2, o_pop, o_getI, o_getR, o_putI, o_putR, o_iald, o_iast, o_bald, o_bast, o_zald, o_zast, o_aald, o_aast, o_jald, o_jast, o_dald, o_dast, o_alen, o_castA, o_new, o_newa, o_callv, o_callvN, o_calli, o_calls, o_objinit, o_iret, o_zret, o_fret, o_dret, o_aret, o_vret, o_throw, o_acopy, o_bcopy, o_clone, o_tsw, o_ldcS, o_kval, o_kcoder, o_klen, o_kald, o_tald, o_getSq, o_callk, o_callvH, gl, stl, stl2, pre2, va_rf, Value.category, catS, List.length_cons, List.length_nil, List.map_cons, List.map_nil, List.sum_cons, List.sum_nil, List.take_succ_cons, List.take_zero, List.drop_succ_cons, List.drop_zero, List.reverse_cons, List.reverse_nil, List.nil_append, List.cons_append, true_and, and_true, Nat.reduceAdd, Nat.reduceLT, Nat.reduceLeDiff, gL_nW, gK_nW, gN_nW, gI_nW, if_neg hab, ht, hN, if_pos, nI_clamp (show N < 2 ^ 31 by omega)]
  have h0 : Int32.toNatClampNeg 0 = 0 := by decide
  rw [h0, if_neg (fun e => hab e.2)]
  exact ⟨List.mem_append_left _ ha, h17, hba, ht17, by decide, by decide, nI_pos (by omega), by omega, by omega, h b hb⟩
end SPJ
