/-! THE INSTRUCTIONS of these methods hold -/
theorem hc_L_append : ∀ E h, hdl [("java/lang/IllegalStateException", 19)] E = some h → ∃ pre x suf, tableOf [(0, 16, 19, 13)] = pre ++ x :: suf ∧ x.handlerPc = h ∧ covers x 11 = true ∧ x.catchType ≠ 0 ∧ Cond.classLink "TrialConverterLaw" x.catchType E ∈ TW ∧ Cond.castable E E ∈ TN ∧ ∀ z ∈ pre, z.catchType ≠ 0 ∧ ∃ nm', Cond.classLink "TrialConverterLaw" z.catchType nm' ∈ TW ∧ (E, nm') ∈ ncG := by
  intro E h he
  rw [hdl] at he
  by_cases e0 : "java/lang/IllegalStateException" = E
  · subst e0
    rw [if_pos rfl] at he
    cases he
    exact ⟨[], ⟨0, 16, 19, 13⟩, [], rfl, rfl, by decide, by decide, w3_37, tn3 44 rfl rfl, fun z hz => absurd hz List.not_mem_nil⟩
  rw [if_neg e0] at he
  cases he
set_option maxRecDepth 20000 in
theorem ok_L_append : OkM yL_append cL_append 8 (some .int) (tableOf [(0, 16, 19, 13)]) tb_L_append nmwG := by
  intro p l e R s m args below meth c Z D cy base c0 z0 d ks cl Q X S0 C Cy0 hcl hr hn hX
  exact List.forall_mem_cons.mpr ⟨ok_aload (pc := 0) (k := 6) C hX (by decide +kernel),
  List.forall_mem_cons.mpr ⟨ok_iconst (pc := 2) (n := 0) C hX (by decide +kernel) (by decide),
  List.forall_mem_cons.mpr ⟨ok_aload_n (pc := 3) (k := 0) C hX (by decide +kernel) rfl,
  List.forall_mem_cons.mpr ⟨ok_iload_n (pc := 4) (k := 1) C hX (by decide +kernel) rfl,
  List.forall_mem_cons.mpr ⟨ok_iload_n (pc := 5) (k := 2) C hX (by decide +kernel) rfl,
  List.forall_mem_cons.mpr ⟨ok_iload_n (pc := 6) (k := 3) C hX (by decide +kernel) rfl,
  List.forall_mem_cons.mpr ⟨ok_iload (pc := 7) (k := 4) C hX (by decide +kernel),
  List.forall_mem_cons.mpr ⟨ok_iload (pc := 9) (k := 5) C hX (by decide +kernel),
  List.forall_mem_cons.mpr ⟨ok_callvH (pc := 11) (y := n_X8_append) (n := 6) (t := 10) (index := 7) C hX Cy0 hcl ny_X8_append rfl w3_41 w3_38 w3_39 w3_40 w1_1 (by decide +kernel) (by decide) (by decide +kernel) hc_L_append,
  List.forall_mem_cons.mpr ⟨ok_i2l (pc := 14) C hX (by decide +kernel),
  List.forall_mem_cons.mpr ⟨ok_jast (pc := 15) C hX (by decide +kernel),
  List.forall_mem_cons.mpr ⟨ok_goto (pc := 16) (off := 7) C hX (by decide +kernel) (by decide),
  List.forall_mem_cons.mpr ⟨ok_astore (pc := 19) (k := 7) C hX (by decide +kernel),
  List.forall_mem_cons.mpr ⟨ok_iconst (pc := 21) (n := 1) C hX (by decide +kernel) (by decide),
  List.forall_mem_cons.mpr ⟨ok_iret (pc := 22) C hX Cy0 hr (by decide +kernel),
  List.forall_mem_cons.mpr ⟨ok_iconst (pc := 23) (n := 0) C hX (by decide +kernel) (by decide),
  List.forall_mem_cons.mpr ⟨ok_iret (pc := 24) C hX Cy0 hr (by decide +kernel),
  fun q hq => absurd hq List.not_mem_nil⟩⟩⟩⟩⟩⟩⟩⟩⟩⟩⟩⟩⟩⟩⟩⟩⟩
theorem mn_L_append : MonoT tb_L_append := List.forall_mem_cons.mpr ⟨m_aload _ _,
  List.forall_mem_cons.mpr ⟨m_const _ _,
  List.forall_mem_cons.mpr ⟨m_aload _ _,
  List.forall_mem_cons.mpr ⟨m_iload _ _,
  List.forall_mem_cons.mpr ⟨m_iload _ _,
  List.forall_mem_cons.mpr ⟨m_iload _ _,
  List.forall_mem_cons.mpr ⟨m_iload _ _,
  List.forall_mem_cons.mpr ⟨m_iload _ _,
  List.forall_mem_cons.mpr ⟨m_callvH _ _ _ _ _,
  List.forall_mem_cons.mpr ⟨m_i2l _,
  List.forall_mem_cons.mpr ⟨m_jast _,
  List.forall_mem_cons.mpr ⟨m_goto _,
  List.forall_mem_cons.mpr ⟨m_astore _ _,
  List.forall_mem_cons.mpr ⟨m_const _ _,
  List.forall_mem_cons.mpr ⟨m_iret,
  List.forall_mem_cons.mpr ⟨m_const _ _,
  List.forall_mem_cons.mpr ⟨m_iret,
  fun q hq => absurd hq List.not_mem_nil⟩⟩⟩⟩⟩⟩⟩⟩⟩⟩⟩⟩⟩⟩⟩⟩⟩
theorem hc_L_load : ∀ E h, hdl [("java/lang/IllegalArgumentException", 12)] E = some h → ∃ pre x suf, tableOf [(0, 9, 12, 19)] = pre ++ x :: suf ∧ x.handlerPc = h ∧ covers x 4 = true ∧ x.catchType ≠ 0 ∧ Cond.classLink "TrialConverterLaw" x.catchType E ∈ TW ∧ Cond.castable E E ∈ TN ∧ ∀ z ∈ pre, z.catchType ≠ 0 ∧ ∃ nm', Cond.classLink "TrialConverterLaw" z.catchType nm' ∈ TW ∧ (E, nm') ∈ ncG := by
  intro E h he
  rw [hdl] at he
  by_cases e0 : "java/lang/IllegalArgumentException" = E
  · subst e0
    rw [if_pos rfl] at he
    cases he
    exact ⟨[], ⟨0, 9, 12, 19⟩, [], rfl, rfl, by decide, by decide, w3_119, tn3 129 rfl rfl, fun z hz => absurd hz List.not_mem_nil⟩
  rw [if_neg e0] at he
  cases he
set_option maxRecDepth 20000 in
theorem ok_L_load : OkM yL_load cL_load 4 (some .int) (tableOf [(0, 9, 12, 19)]) tb_L_load nmwG := by
  intro p l e R s m args below meth c Z D cy base c0 z0 d ks cl Q X S0 C Cy0 hcl hr hn hX
  exact List.forall_mem_cons.mpr ⟨ok_aload_n (pc := 0) (k := 2) C hX (by decide +kernel) rfl,
  List.forall_mem_cons.mpr ⟨ok_iconst (pc := 1) (n := 0) C hX (by decide +kernel) (by decide),
  List.forall_mem_cons.mpr ⟨ok_aload_n (pc := 2) (k := 0) C hX (by decide +kernel) rfl,
  List.forall_mem_cons.mpr ⟨ok_iload_n (pc := 3) (k := 1) C hX (by decide +kernel) rfl,
  List.forall_mem_cons.mpr ⟨ok_callvH (pc := 4) (y := n_X8_load) (n := 2) (t := 10) (index := 15) C hX Cy0 hcl ny_X8_load rfl w3_123 w3_120 w3_121 w3_122 w1_1 (by decide +kernel) (by decide) (by decide +kernel) hc_L_load,
  List.forall_mem_cons.mpr ⟨ok_i2l (pc := 7) C hX (by decide +kernel),
  List.forall_mem_cons.mpr ⟨ok_jast (pc := 8) C hX (by decide +kernel),
  List.forall_mem_cons.mpr ⟨ok_goto (pc := 9) (off := 6) C hX (by decide +kernel) (by decide),
  List.forall_mem_cons.mpr ⟨ok_astore_n (pc := 12) (k := 3) C hX (by decide +kernel) rfl,
  List.forall_mem_cons.mpr ⟨ok_iconst (pc := 13) (n := 1) C hX (by decide +kernel) (by decide),
  List.forall_mem_cons.mpr ⟨ok_iret (pc := 14) C hX Cy0 hr (by decide +kernel),
  List.forall_mem_cons.mpr ⟨ok_iconst (pc := 15) (n := 0) C hX (by decide +kernel) (by decide),
  List.forall_mem_cons.mpr ⟨ok_iret (pc := 16) C hX Cy0 hr (by decide +kernel),
  fun q hq => absurd hq List.not_mem_nil⟩⟩⟩⟩⟩⟩⟩⟩⟩⟩⟩⟩⟩
theorem mn_L_load : MonoT tb_L_load := List.forall_mem_cons.mpr ⟨m_aload _ _,
  List.forall_mem_cons.mpr ⟨m_const _ _,
  List.forall_mem_cons.mpr ⟨m_aload _ _,
  List.forall_mem_cons.mpr ⟨m_iload _ _,
  List.forall_mem_cons.mpr ⟨m_callvH _ _ _ _ _,
  List.forall_mem_cons.mpr ⟨m_i2l _,
  List.forall_mem_cons.mpr ⟨m_jast _,
  List.forall_mem_cons.mpr ⟨m_goto _,
  List.forall_mem_cons.mpr ⟨m_astore _ _,
  List.forall_mem_cons.mpr ⟨m_const _ _,
  List.forall_mem_cons.mpr ⟨m_iret,
  List.forall_mem_cons.mpr ⟨m_const _ _,
  List.forall_mem_cons.mpr ⟨m_iret,
  fun q hq => absurd hq List.not_mem_nil⟩⟩⟩⟩⟩⟩⟩⟩⟩⟩⟩⟩⟩
theorem hc_L_count : ∀ E h, hdl [("java/lang/IllegalArgumentException", 12)] E = some h → ∃ pre x suf, tableOf [(0, 9, 12, 19)] = pre ++ x :: suf ∧ x.handlerPc = h ∧ covers x 4 = true ∧ x.catchType ≠ 0 ∧ Cond.classLink "TrialConverterLaw" x.catchType E ∈ TW ∧ Cond.castable E E ∈ TN ∧ ∀ z ∈ pre, z.catchType ≠ 0 ∧ ∃ nm', Cond.classLink "TrialConverterLaw" z.catchType nm' ∈ TW ∧ (E, nm') ∈ ncG := by
  intro E h he
  rw [hdl] at he
  by_cases e0 : "java/lang/IllegalArgumentException" = E
  · subst e0
    rw [if_pos rfl] at he
    cases he
    exact ⟨[], ⟨0, 9, 12, 19⟩, [], rfl, rfl, by decide, by decide, w3_119, tn3 129 rfl rfl, fun z hz => absurd hz List.not_mem_nil⟩
  rw [if_neg e0] at he
  cases he
set_option maxRecDepth 20000 in
theorem ok_L_count : OkM yL_count cL_count 4 (some .int) (tableOf [(0, 9, 12, 19)]) tb_L_count nmwG := by
  intro p l e R s m args below meth c Z D cy base c0 z0 d ks cl Q X S0 C Cy0 hcl hr hn hX
  exact List.forall_mem_cons.mpr ⟨ok_aload_n (pc := 0) (k := 2) C hX (by decide +kernel) rfl,
  List.forall_mem_cons.mpr ⟨ok_iconst (pc := 1) (n := 0) C hX (by decide +kernel) (by decide),
  List.forall_mem_cons.mpr ⟨ok_aload_n (pc := 2) (k := 0) C hX (by decide +kernel) rfl,
  List.forall_mem_cons.mpr ⟨ok_iload_n (pc := 3) (k := 1) C hX (by decide +kernel) rfl,
  List.forall_mem_cons.mpr ⟨ok_callvH (pc := 4) (y := n_X8_count) (n := 2) (t := 10) (index := 21) C hX Cy0 hcl ny_X8_count rfl w4_60 w4_57 w4_58 w4_59 w1_1 (by decide +kernel) (by decide) (by decide +kernel) hc_L_count,
  List.forall_mem_cons.mpr ⟨ok_i2l (pc := 7) C hX (by decide +kernel),
  List.forall_mem_cons.mpr ⟨ok_jast (pc := 8) C hX (by decide +kernel),
  List.forall_mem_cons.mpr ⟨ok_goto (pc := 9) (off := 6) C hX (by decide +kernel) (by decide),
  List.forall_mem_cons.mpr ⟨ok_astore_n (pc := 12) (k := 3) C hX (by decide +kernel) rfl,
  List.forall_mem_cons.mpr ⟨ok_iconst (pc := 13) (n := 1) C hX (by decide +kernel) (by decide),
  List.forall_mem_cons.mpr ⟨ok_iret (pc := 14) C hX Cy0 hr (by decide +kernel),
  List.forall_mem_cons.mpr ⟨ok_iconst (pc := 15) (n := 0) C hX (by decide +kernel) (by decide),
  List.forall_mem_cons.mpr ⟨ok_iret (pc := 16) C hX Cy0 hr (by decide +kernel),
  fun q hq => absurd hq List.not_mem_nil⟩⟩⟩⟩⟩⟩⟩⟩⟩⟩⟩⟩⟩
theorem mn_L_count : MonoT tb_L_count := List.forall_mem_cons.mpr ⟨m_aload _ _,
  List.forall_mem_cons.mpr ⟨m_const _ _,
  List.forall_mem_cons.mpr ⟨m_aload _ _,
  List.forall_mem_cons.mpr ⟨m_iload _ _,
  List.forall_mem_cons.mpr ⟨m_callvH _ _ _ _ _,
  List.forall_mem_cons.mpr ⟨m_i2l _,
  List.forall_mem_cons.mpr ⟨m_jast _,
  List.forall_mem_cons.mpr ⟨m_goto _,
  List.forall_mem_cons.mpr ⟨m_astore _ _,
  List.forall_mem_cons.mpr ⟨m_const _ _,
  List.forall_mem_cons.mpr ⟨m_iret,
  List.forall_mem_cons.mpr ⟨m_const _ _,
  List.forall_mem_cons.mpr ⟨m_iret,
  fun q hq => absurd hq List.not_mem_nil⟩⟩⟩⟩⟩⟩⟩⟩⟩⟩⟩⟩⟩
theorem hc_L_comparator : ∀ E h, hdl [("java/lang/IndexOutOfBoundsException", 13), ("java/lang/IllegalArgumentException", 17)] E = some h → ∃ pre x suf, tableOf [(0, 10, 13, 28), (0, 10, 17, 19)] = pre ++ x :: suf ∧ x.handlerPc = h ∧ covers x 5 = true ∧ x.catchType ≠ 0 ∧ Cond.classLink "TrialConverterLaw" x.catchType E ∈ TW ∧ Cond.castable E E ∈ TN ∧ ∀ z ∈ pre, z.catchType ≠ 0 ∧ ∃ nm', Cond.classLink "TrialConverterLaw" z.catchType nm' ∈ TW ∧ (E, nm') ∈ ncG := by
  intro E h he
  rw [hdl] at he
  by_cases e0 : "java/lang/IndexOutOfBoundsException" = E
  · subst e0
    rw [if_pos rfl] at he
    cases he
    exact ⟨[], ⟨0, 10, 13, 28⟩, [⟨0, 10, 17, 19⟩], rfl, rfl, by decide, by decide, w4_87, tn4 94 rfl rfl, fun z hz => absurd hz List.not_mem_nil⟩
  rw [if_neg e0] at he
  rw [hdl] at he
  by_cases e1 : "java/lang/IllegalArgumentException" = E
  · subst e1
    rw [if_pos rfl] at he
    cases he
    exact ⟨[⟨0, 10, 13, 28⟩], ⟨0, 10, 17, 19⟩, [], rfl, rfl, by decide, by decide, w3_119, tn3 129 rfl rfl, List.forall_mem_cons.mpr ⟨⟨by decide, "java/lang/IndexOutOfBoundsException", w4_87, by decide⟩, fun z hz => absurd hz List.not_mem_nil⟩⟩
  rw [if_neg e1] at he
  cases he
set_option maxRecDepth 20000 in
theorem ok_L_comparator : OkM yL_comparator cL_comparator 5 (some .int) (tableOf [(0, 10, 13, 28), (0, 10, 17, 19)]) tb_L_comparator nmwG := by
  intro p l e R s m args below meth c Z D cy base c0 z0 d ks cl Q X S0 C Cy0 hcl hr hn hX
  exact List.forall_mem_cons.mpr ⟨ok_aload_n (pc := 0) (k := 3) C hX (by decide +kernel) rfl,
  List.forall_mem_cons.mpr ⟨ok_iconst (pc := 1) (n := 0) C hX (by decide +kernel) (by decide),
  List.forall_mem_cons.mpr ⟨ok_aload_n (pc := 2) (k := 0) C hX (by decide +kernel) rfl,
  List.forall_mem_cons.mpr ⟨ok_iload_n (pc := 3) (k := 1) C hX (by decide +kernel) rfl,
  List.forall_mem_cons.mpr ⟨ok_iload_n (pc := 4) (k := 2) C hX (by decide +kernel) rfl,
  List.forall_mem_cons.mpr ⟨ok_callvH (pc := 5) (y := n_X8_comparator) (n := 3) (t := 10) (index := 24) C hX Cy0 hcl ny_X8_comparator rfl w4_91 w4_88 w4_89 w4_90 w1_1 (by decide +kernel) (by decide) (by decide +kernel) hc_L_comparator,
  List.forall_mem_cons.mpr ⟨ok_i2l (pc := 8) C hX (by decide +kernel),
  List.forall_mem_cons.mpr ⟨ok_jast (pc := 9) C hX (by decide +kernel),
  List.forall_mem_cons.mpr ⟨ok_goto (pc := 10) (off := 11) C hX (by decide +kernel) (by decide),
  List.forall_mem_cons.mpr ⟨ok_astore (pc := 13) (k := 4) C hX (by decide +kernel),
  List.forall_mem_cons.mpr ⟨ok_iconst (pc := 15) (n := 1) C hX (by decide +kernel) (by decide),
  List.forall_mem_cons.mpr ⟨ok_iret (pc := 16) C hX Cy0 hr (by decide +kernel),
  List.forall_mem_cons.mpr ⟨ok_astore (pc := 17) (k := 4) C hX (by decide +kernel),
  List.forall_mem_cons.mpr ⟨ok_iconst (pc := 19) (n := 2) C hX (by decide +kernel) (by decide),
  List.forall_mem_cons.mpr ⟨ok_iret (pc := 20) C hX Cy0 hr (by decide +kernel),
  List.forall_mem_cons.mpr ⟨ok_iconst (pc := 21) (n := 0) C hX (by decide +kernel) (by decide),
  List.forall_mem_cons.mpr ⟨ok_iret (pc := 22) C hX Cy0 hr (by decide +kernel),
  fun q hq => absurd hq List.not_mem_nil⟩⟩⟩⟩⟩⟩⟩⟩⟩⟩⟩⟩⟩⟩⟩⟩⟩
theorem mn_L_comparator : MonoT tb_L_comparator := List.forall_mem_cons.mpr ⟨m_aload _ _,
  List.forall_mem_cons.mpr ⟨m_const _ _,
  List.forall_mem_cons.mpr ⟨m_aload _ _,
  List.forall_mem_cons.mpr ⟨m_iload _ _,
  List.forall_mem_cons.mpr ⟨m_iload _ _,
  List.forall_mem_cons.mpr ⟨m_callvH _ _ _ _ _,
  List.forall_mem_cons.mpr ⟨m_i2l _,
  List.forall_mem_cons.mpr ⟨m_jast _,
  List.forall_mem_cons.mpr ⟨m_goto _,
  List.forall_mem_cons.mpr ⟨m_astore _ _,
  List.forall_mem_cons.mpr ⟨m_const _ _,
  List.forall_mem_cons.mpr ⟨m_iret,
  List.forall_mem_cons.mpr ⟨m_astore _ _,
  List.forall_mem_cons.mpr ⟨m_const _ _,
  List.forall_mem_cons.mpr ⟨m_iret,
  List.forall_mem_cons.mpr ⟨m_const _ _,
  List.forall_mem_cons.mpr ⟨m_iret,
  fun q hq => absurd hq List.not_mem_nil⟩⟩⟩⟩⟩⟩⟩⟩⟩⟩⟩⟩⟩⟩⟩⟩⟩
theorem hc_L_weight : ∀ E h, hdl [("java/lang/IndexOutOfBoundsException", 13), ("java/lang/IllegalArgumentException", 17)] E = some h → ∃ pre x suf, tableOf [(0, 10, 13, 28), (0, 10, 17, 19)] = pre ++ x :: suf ∧ x.handlerPc = h ∧ covers x 5 = true ∧ x.catchType ≠ 0 ∧ Cond.classLink "TrialConverterLaw" x.catchType E ∈ TW ∧ Cond.castable E E ∈ TN ∧ ∀ z ∈ pre, z.catchType ≠ 0 ∧ ∃ nm', Cond.classLink "TrialConverterLaw" z.catchType nm' ∈ TW ∧ (E, nm') ∈ ncG := by
  intro E h he
  rw [hdl] at he
  by_cases e0 : "java/lang/IndexOutOfBoundsException" = E
  · subst e0
    rw [if_pos rfl] at he
    cases he
    exact ⟨[], ⟨0, 10, 13, 28⟩, [⟨0, 10, 17, 19⟩], rfl, rfl, by decide, by decide, w4_87, tn4 94 rfl rfl, fun z hz => absurd hz List.not_mem_nil⟩
  rw [if_neg e0] at he
  rw [hdl] at he
  by_cases e1 : "java/lang/IllegalArgumentException" = E
  · subst e1
    rw [if_pos rfl] at he
    cases he
    exact ⟨[⟨0, 10, 13, 28⟩], ⟨0, 10, 17, 19⟩, [], rfl, rfl, by decide, by decide, w3_119, tn3 129 rfl rfl, List.forall_mem_cons.mpr ⟨⟨by decide, "java/lang/IndexOutOfBoundsException", w4_87, by decide⟩, fun z hz => absurd hz List.not_mem_nil⟩⟩
  rw [if_neg e1] at he
  cases he
set_option maxRecDepth 20000 in
theorem ok_L_weight : OkM yL_weight cL_weight 5 (some .int) (tableOf [(0, 10, 13, 28), (0, 10, 17, 19)]) tb_L_weight nmwG := by
  intro p l e R s m args below meth c Z D cy base c0 z0 d ks cl Q X S0 C Cy0 hcl hr hn hX
  exact List.forall_mem_cons.mpr ⟨ok_aload_n (pc := 0) (k := 3) C hX (by decide +kernel) rfl,
  List.forall_mem_cons.mpr ⟨ok_iconst (pc := 1) (n := 0) C hX (by decide +kernel) (by decide),
  List.forall_mem_cons.mpr ⟨ok_aload_n (pc := 2) (k := 0) C hX (by decide +kernel) rfl,
  List.forall_mem_cons.mpr ⟨ok_iload_n (pc := 3) (k := 1) C hX (by decide +kernel) rfl,
  List.forall_mem_cons.mpr ⟨ok_iload_n (pc := 4) (k := 2) C hX (by decide +kernel) rfl,
  List.forall_mem_cons.mpr ⟨ok_callvH (pc := 5) (y := n_X8_weight) (n := 3) (t := 10) (index := 30) C hX Cy0 hcl ny_X8_weight rfl w4_119 w4_116 w4_117 w4_118 w1_1 (by decide +kernel) (by decide) (by decide +kernel) hc_L_weight,
  List.forall_mem_cons.mpr ⟨ok_i2l (pc := 8) C hX (by decide +kernel),
  List.forall_mem_cons.mpr ⟨ok_jast (pc := 9) C hX (by decide +kernel),
  List.forall_mem_cons.mpr ⟨ok_goto (pc := 10) (off := 11) C hX (by decide +kernel) (by decide),
  List.forall_mem_cons.mpr ⟨ok_astore (pc := 13) (k := 4) C hX (by decide +kernel),
  List.forall_mem_cons.mpr ⟨ok_iconst (pc := 15) (n := 1) C hX (by decide +kernel) (by decide),
  List.forall_mem_cons.mpr ⟨ok_iret (pc := 16) C hX Cy0 hr (by decide +kernel),
  List.forall_mem_cons.mpr ⟨ok_astore (pc := 17) (k := 4) C hX (by decide +kernel),
  List.forall_mem_cons.mpr ⟨ok_iconst (pc := 19) (n := 2) C hX (by decide +kernel) (by decide),
  List.forall_mem_cons.mpr ⟨ok_iret (pc := 20) C hX Cy0 hr (by decide +kernel),
  List.forall_mem_cons.mpr ⟨ok_iconst (pc := 21) (n := 0) C hX (by decide +kernel) (by decide),
  List.forall_mem_cons.mpr ⟨ok_iret (pc := 22) C hX Cy0 hr (by decide +kernel),
  fun q hq => absurd hq List.not_mem_nil⟩⟩⟩⟩⟩⟩⟩⟩⟩⟩⟩⟩⟩⟩⟩⟩⟩
theorem mn_L_weight : MonoT tb_L_weight := List.forall_mem_cons.mpr ⟨m_aload _ _,
  List.forall_mem_cons.mpr ⟨m_const _ _,
  List.forall_mem_cons.mpr ⟨m_aload _ _,
  List.forall_mem_cons.mpr ⟨m_iload _ _,
  List.forall_mem_cons.mpr ⟨m_iload _ _,
  List.forall_mem_cons.mpr ⟨m_callvH _ _ _ _ _,
  List.forall_mem_cons.mpr ⟨m_i2l _,
  List.forall_mem_cons.mpr ⟨m_jast _,
  List.forall_mem_cons.mpr ⟨m_goto _,
  List.forall_mem_cons.mpr ⟨m_astore _ _,
  List.forall_mem_cons.mpr ⟨m_const _ _,
  List.forall_mem_cons.mpr ⟨m_iret,
  List.forall_mem_cons.mpr ⟨m_astore _ _,
  List.forall_mem_cons.mpr ⟨m_const _ _,
  List.forall_mem_cons.mpr ⟨m_iret,
  List.forall_mem_cons.mpr ⟨m_const _ _,
  List.forall_mem_cons.mpr ⟨m_iret,
  fun q hq => absurd hq List.not_mem_nil⟩⟩⟩⟩⟩⟩⟩⟩⟩⟩⟩⟩⟩⟩⟩⟩⟩
theorem hc_L_setTable : ∀ E h, hdl [("java/lang/IndexOutOfBoundsException", 13), ("java/lang/IllegalArgumentException", 17)] E = some h → ∃ pre x suf, tableOf [(0, 10, 13, 28), (0, 10, 17, 19)] = pre ++ x :: suf ∧ x.handlerPc = h ∧ covers x 5 = true ∧ x.catchType ≠ 0 ∧ Cond.classLink "TrialConverterLaw" x.catchType E ∈ TW ∧ Cond.castable E E ∈ TN ∧ ∀ z ∈ pre, z.catchType ≠ 0 ∧ ∃ nm', Cond.classLink "TrialConverterLaw" z.catchType nm' ∈ TW ∧ (E, nm') ∈ ncG := by
  intro E h he
  rw [hdl] at he
  by_cases e0 : "java/lang/IndexOutOfBoundsException" = E
  · subst e0
    rw [if_pos rfl] at he
    cases he
    exact ⟨[], ⟨0, 10, 13, 28⟩, [⟨0, 10, 17, 19⟩], rfl, rfl, by decide, by decide, w4_87, tn4 94 rfl rfl, fun z hz => absurd hz List.not_mem_nil⟩
  rw [if_neg e0] at he
  rw [hdl] at he
  by_cases e1 : "java/lang/IllegalArgumentException" = E
  · subst e1
    rw [if_pos rfl] at he
    cases he
    exact ⟨[⟨0, 10, 13, 28⟩], ⟨0, 10, 17, 19⟩, [], rfl, rfl, by decide, by decide, w3_119, tn3 129 rfl rfl, List.forall_mem_cons.mpr ⟨⟨by decide, "java/lang/IndexOutOfBoundsException", w4_87, by decide⟩, fun z hz => absurd hz List.not_mem_nil⟩⟩
  rw [if_neg e1] at he
  cases he
set_option maxRecDepth 20000 in
theorem ok_L_setTable : OkM yL_setTable cL_setTable 5 (some .int) (tableOf [(0, 10, 13, 28), (0, 10, 17, 19)]) tb_L_setTable nmwG := by
  intro p l e R s m args below meth c Z D cy base c0 z0 d ks cl Q X S0 C Cy0 hcl hr hn hX
  exact List.forall_mem_cons.mpr ⟨ok_aload_n (pc := 0) (k := 3) C hX (by decide +kernel) rfl,
  List.forall_mem_cons.mpr ⟨ok_iconst (pc := 1) (n := 0) C hX (by decide +kernel) (by decide),
  List.forall_mem_cons.mpr ⟨ok_aload_n (pc := 2) (k := 0) C hX (by decide +kernel) rfl,
  List.forall_mem_cons.mpr ⟨ok_iload_n (pc := 3) (k := 1) C hX (by decide +kernel) rfl,
  List.forall_mem_cons.mpr ⟨ok_iload_n (pc := 4) (k := 2) C hX (by decide +kernel) rfl,
  List.forall_mem_cons.mpr ⟨ok_callvH (pc := 5) (y := n_X8_setTable) (n := 3) (t := 10) (index := 33) C hX Cy0 hcl ny_X8_setTable rfl w4_134 w4_131 w4_132 w4_133 w1_1 (by decide +kernel) (by decide) (by decide +kernel) hc_L_setTable,
  List.forall_mem_cons.mpr ⟨ok_i2l (pc := 8) C hX (by decide +kernel),
  List.forall_mem_cons.mpr ⟨ok_jast (pc := 9) C hX (by decide +kernel),
  List.forall_mem_cons.mpr ⟨ok_goto (pc := 10) (off := 11) C hX (by decide +kernel) (by decide),
  List.forall_mem_cons.mpr ⟨ok_astore (pc := 13) (k := 4) C hX (by decide +kernel),
  List.forall_mem_cons.mpr ⟨ok_iconst (pc := 15) (n := 1) C hX (by decide +kernel) (by decide),
  List.forall_mem_cons.mpr ⟨ok_iret (pc := 16) C hX Cy0 hr (by decide +kernel),
  List.forall_mem_cons.mpr ⟨ok_astore (pc := 17) (k := 4) C hX (by decide +kernel),
  List.forall_mem_cons.mpr ⟨ok_iconst (pc := 19) (n := 2) C hX (by decide +kernel) (by decide),
  List.forall_mem_cons.mpr ⟨ok_iret (pc := 20) C hX Cy0 hr (by decide +kernel),
  List.forall_mem_cons.mpr ⟨ok_iconst (pc := 21) (n := 0) C hX (by decide +kernel) (by decide),
  List.forall_mem_cons.mpr ⟨ok_iret (pc := 22) C hX Cy0 hr (by decide +kernel),
  fun q hq => absurd hq List.not_mem_nil⟩⟩⟩⟩⟩⟩⟩⟩⟩⟩⟩⟩⟩⟩⟩⟩⟩
theorem mn_L_setTable : MonoT tb_L_setTable := List.forall_mem_cons.mpr ⟨m_aload _ _,
  List.forall_mem_cons.mpr ⟨m_const _ _,
  List.forall_mem_cons.mpr ⟨m_aload _ _,
  List.forall_mem_cons.mpr ⟨m_iload _ _,
  List.forall_mem_cons.mpr ⟨m_iload _ _,
  List.forall_mem_cons.mpr ⟨m_callvH _ _ _ _ _,
  List.forall_mem_cons.mpr ⟨m_i2l _,
  List.forall_mem_cons.mpr ⟨m_jast _,
  List.forall_mem_cons.mpr ⟨m_goto _,
  List.forall_mem_cons.mpr ⟨m_astore _ _,
  List.forall_mem_cons.mpr ⟨m_const _ _,
  List.forall_mem_cons.mpr ⟨m_iret,
  List.forall_mem_cons.mpr ⟨m_astore _ _,
  List.forall_mem_cons.mpr ⟨m_const _ _,
  List.forall_mem_cons.mpr ⟨m_iret,
  List.forall_mem_cons.mpr ⟨m_const _ _,
  List.forall_mem_cons.mpr ⟨m_iret,
  fun q hq => absurd hq List.not_mem_nil⟩⟩⟩⟩⟩⟩⟩⟩⟩⟩⟩⟩⟩⟩⟩⟩⟩
theorem hc_L_calibrate : ∀ E h, hdl [("java/lang/IndexOutOfBoundsException", 13), ("java/lang/IllegalArgumentException", 17), ("java/lang/IllegalStateException", 21)] E = some h → ∃ pre x suf, tableOf [(0, 10, 13, 28), (0, 10, 17, 19), (0, 10, 21, 13)] = pre ++ x :: suf ∧ x.handlerPc = h ∧ covers x 5 = true ∧ x.catchType ≠ 0 ∧ Cond.classLink "TrialConverterLaw" x.catchType E ∈ TW ∧ Cond.castable E E ∈ TN ∧ ∀ z ∈ pre, z.catchType ≠ 0 ∧ ∃ nm', Cond.classLink "TrialConverterLaw" z.catchType nm' ∈ TW ∧ (E, nm') ∈ ncG := by
  intro E h he
  rw [hdl] at he
  by_cases e0 : "java/lang/IndexOutOfBoundsException" = E
  · subst e0
    rw [if_pos rfl] at he
    cases he
    exact ⟨[], ⟨0, 10, 13, 28⟩, [⟨0, 10, 17, 19⟩, ⟨0, 10, 21, 13⟩], rfl, rfl, by decide, by decide, w4_87, tn4 94 rfl rfl, fun z hz => absurd hz List.not_mem_nil⟩
  rw [if_neg e0] at he
  rw [hdl] at he
  by_cases e1 : "java/lang/IllegalArgumentException" = E
  · subst e1
    rw [if_pos rfl] at he
    cases he
    exact ⟨[⟨0, 10, 13, 28⟩], ⟨0, 10, 17, 19⟩, [⟨0, 10, 21, 13⟩], rfl, rfl, by decide, by decide, w3_119, tn3 129 rfl rfl, List.forall_mem_cons.mpr ⟨⟨by decide, "java/lang/IndexOutOfBoundsException", w4_87, by decide⟩, fun z hz => absurd hz List.not_mem_nil⟩⟩
  rw [if_neg e1] at he
  rw [hdl] at he
  by_cases e2 : "java/lang/IllegalStateException" = E
  · subst e2
    rw [if_pos rfl] at he
    cases he
    exact ⟨[⟨0, 10, 13, 28⟩, ⟨0, 10, 17, 19⟩], ⟨0, 10, 21, 13⟩, [], rfl, rfl, by decide, by decide, w3_37, tn3 44 rfl rfl, List.forall_mem_cons.mpr ⟨⟨by decide, "java/lang/IndexOutOfBoundsException", w4_87, by decide⟩, List.forall_mem_cons.mpr ⟨⟨by decide, "java/lang/IllegalArgumentException", w3_119, by decide⟩, fun z hz => absurd hz List.not_mem_nil⟩⟩⟩
  rw [if_neg e2] at he
  cases he
set_option maxRecDepth 20000 in
theorem ok_L_calibrate : OkM yL_calibrate cL_calibrate 5 (some .int) (tableOf [(0, 10, 13, 28), (0, 10, 17, 19), (0, 10, 21, 13)]) tb_L_calibrate nmwG := by
  intro p l e R s m args below meth c Z D cy base c0 z0 d ks cl Q X S0 C Cy0 hcl hr hn hX
  exact List.forall_mem_cons.mpr ⟨ok_aload_n (pc := 0) (k := 3) C hX (by decide +kernel) rfl,
  List.forall_mem_cons.mpr ⟨ok_iconst (pc := 1) (n := 0) C hX (by decide +kernel) (by decide),
  List.forall_mem_cons.mpr ⟨ok_aload_n (pc := 2) (k := 0) C hX (by decide +kernel) rfl,
  List.forall_mem_cons.mpr ⟨ok_iload_n (pc := 3) (k := 1) C hX (by decide +kernel) rfl,
  List.forall_mem_cons.mpr ⟨ok_iload_n (pc := 4) (k := 2) C hX (by decide +kernel) rfl,
  List.forall_mem_cons.mpr ⟨ok_callvH (pc := 5) (y := n_X8_calibrate) (n := 3) (t := 10) (index := 36) C hX Cy0 hcl ny_X8_calibrate rfl w4_141 w4_138 w4_139 w4_140 w1_1 (by decide +kernel) (by decide) (by decide +kernel) hc_L_calibrate,
  List.forall_mem_cons.mpr ⟨ok_i2l (pc := 8) C hX (by decide +kernel),
  List.forall_mem_cons.mpr ⟨ok_jast (pc := 9) C hX (by decide +kernel),
  List.forall_mem_cons.mpr ⟨ok_goto (pc := 10) (off := 15) C hX (by decide +kernel) (by decide),
  List.forall_mem_cons.mpr ⟨ok_astore (pc := 13) (k := 4) C hX (by decide +kernel),
  List.forall_mem_cons.mpr ⟨ok_iconst (pc := 15) (n := 1) C hX (by decide +kernel) (by decide),
  List.forall_mem_cons.mpr ⟨ok_iret (pc := 16) C hX Cy0 hr (by decide +kernel),
  List.forall_mem_cons.mpr ⟨ok_astore (pc := 17) (k := 4) C hX (by decide +kernel),
  List.forall_mem_cons.mpr ⟨ok_iconst (pc := 19) (n := 2) C hX (by decide +kernel) (by decide),
  List.forall_mem_cons.mpr ⟨ok_iret (pc := 20) C hX Cy0 hr (by decide +kernel),
  List.forall_mem_cons.mpr ⟨ok_astore (pc := 21) (k := 4) C hX (by decide +kernel),
  List.forall_mem_cons.mpr ⟨ok_iconst (pc := 23) (n := 3) C hX (by decide +kernel) (by decide),
  List.forall_mem_cons.mpr ⟨ok_iret (pc := 24) C hX Cy0 hr (by decide +kernel),
  List.forall_mem_cons.mpr ⟨ok_iconst (pc := 25) (n := 0) C hX (by decide +kernel) (by decide),
  List.forall_mem_cons.mpr ⟨ok_iret (pc := 26) C hX Cy0 hr (by decide +kernel),
  fun q hq => absurd hq List.not_mem_nil⟩⟩⟩⟩⟩⟩⟩⟩⟩⟩⟩⟩⟩⟩⟩⟩⟩⟩⟩⟩
theorem mn_L_calibrate : MonoT tb_L_calibrate := List.forall_mem_cons.mpr ⟨m_aload _ _,
  List.forall_mem_cons.mpr ⟨m_const _ _,
  List.forall_mem_cons.mpr ⟨m_aload _ _,
  List.forall_mem_cons.mpr ⟨m_iload _ _,
  List.forall_mem_cons.mpr ⟨m_iload _ _,
  List.forall_mem_cons.mpr ⟨m_callvH _ _ _ _ _,
  List.forall_mem_cons.mpr ⟨m_i2l _,
  List.forall_mem_cons.mpr ⟨m_jast _,
  List.forall_mem_cons.mpr ⟨m_goto _,
  List.forall_mem_cons.mpr ⟨m_astore _ _,
  List.forall_mem_cons.mpr ⟨m_const _ _,
  List.forall_mem_cons.mpr ⟨m_iret,
  List.forall_mem_cons.mpr ⟨m_astore _ _,
  List.forall_mem_cons.mpr ⟨m_const _ _,
  List.forall_mem_cons.mpr ⟨m_iret,
  List.forall_mem_cons.mpr ⟨m_astore _ _,
  List.forall_mem_cons.mpr ⟨m_const _ _,
  List.forall_mem_cons.mpr ⟨m_iret,
  List.forall_mem_cons.mpr ⟨m_const _ _,
  List.forall_mem_cons.mpr ⟨m_iret,
  fun q hq => absurd hq List.not_mem_nil⟩⟩⟩⟩⟩⟩⟩⟩⟩⟩⟩⟩⟩⟩⟩⟩⟩⟩⟩⟩
theorem hc_L_calibrateAll : ∀ E h, hdl [("java/lang/IllegalArgumentException", 12)] E = some h → ∃ pre x suf, tableOf [(0, 9, 12, 19)] = pre ++ x :: suf ∧ x.handlerPc = h ∧ covers x 4 = true ∧ x.catchType ≠ 0 ∧ Cond.classLink "TrialConverterLaw" x.catchType E ∈ TW ∧ Cond.castable E E ∈ TN ∧ ∀ z ∈ pre, z.catchType ≠ 0 ∧ ∃ nm', Cond.classLink "TrialConverterLaw" z.catchType nm' ∈ TW ∧ (E, nm') ∈ ncG := by
  intro E h he
  rw [hdl] at he
  by_cases e0 : "java/lang/IllegalArgumentException" = E
  · subst e0
    rw [if_pos rfl] at he
    cases he
    exact ⟨[], ⟨0, 9, 12, 19⟩, [], rfl, rfl, by decide, by decide, w3_119, tn3 129 rfl rfl, fun z hz => absurd hz List.not_mem_nil⟩
  rw [if_neg e0] at he
  cases he
set_option maxRecDepth 20000 in
theorem ok_L_calibrateAll : OkM yL_calibrateAll cL_calibrateAll 4 (some .int) (tableOf [(0, 9, 12, 19)]) tb_L_calibrateAll nmwG := by
  intro p l e R s m args below meth c Z D cy base c0 z0 d ks cl Q X S0 C Cy0 hcl hr hn hX
  exact List.forall_mem_cons.mpr ⟨ok_aload_n (pc := 0) (k := 2) C hX (by decide +kernel) rfl,
  List.forall_mem_cons.mpr ⟨ok_iconst (pc := 1) (n := 0) C hX (by decide +kernel) (by decide),
  List.forall_mem_cons.mpr ⟨ok_aload_n (pc := 2) (k := 0) C hX (by decide +kernel) rfl,
  List.forall_mem_cons.mpr ⟨ok_iload_n (pc := 3) (k := 1) C hX (by decide +kernel) rfl,
  List.forall_mem_cons.mpr ⟨ok_callvH (pc := 4) (y := n_X8_calibrateAll) (n := 2) (t := 10) (index := 39) C hX Cy0 hcl ny_X8_calibrateAll rfl w4_176 w4_173 w4_174 w4_175 w1_1 (by decide +kernel) (by decide) (by decide +kernel) hc_L_calibrateAll,
  List.forall_mem_cons.mpr ⟨ok_i2l (pc := 7) C hX (by decide +kernel),
  List.forall_mem_cons.mpr ⟨ok_jast (pc := 8) C hX (by decide +kernel),
  List.forall_mem_cons.mpr ⟨ok_goto (pc := 9) (off := 6) C hX (by decide +kernel) (by decide),
  List.forall_mem_cons.mpr ⟨ok_astore_n (pc := 12) (k := 3) C hX (by decide +kernel) rfl,
  List.forall_mem_cons.mpr ⟨ok_iconst (pc := 13) (n := 1) C hX (by decide +kernel) (by decide),
  List.forall_mem_cons.mpr ⟨ok_iret (pc := 14) C hX Cy0 hr (by decide +kernel),
  List.forall_mem_cons.mpr ⟨ok_iconst (pc := 15) (n := 0) C hX (by decide +kernel) (by decide),
  List.forall_mem_cons.mpr ⟨ok_iret (pc := 16) C hX Cy0 hr (by decide +kernel),
  fun q hq => absurd hq List.not_mem_nil⟩⟩⟩⟩⟩⟩⟩⟩⟩⟩⟩⟩⟩
theorem mn_L_calibrateAll : MonoT tb_L_calibrateAll := List.forall_mem_cons.mpr ⟨m_aload _ _,
  List.forall_mem_cons.mpr ⟨m_const _ _,
  List.forall_mem_cons.mpr ⟨m_aload _ _,
  List.forall_mem_cons.mpr ⟨m_iload _ _,
  List.forall_mem_cons.mpr ⟨m_callvH _ _ _ _ _,
  List.forall_mem_cons.mpr ⟨m_i2l _,
  List.forall_mem_cons.mpr ⟨m_jast _,
  List.forall_mem_cons.mpr ⟨m_goto _,
  List.forall_mem_cons.mpr ⟨m_astore _ _,
  List.forall_mem_cons.mpr ⟨m_const _ _,
  List.forall_mem_cons.mpr ⟨m_iret,
  List.forall_mem_cons.mpr ⟨m_const _ _,
  List.forall_mem_cons.mpr ⟨m_iret,
  fun q hq => absurd hq List.not_mem_nil⟩⟩⟩⟩⟩⟩⟩⟩⟩⟩⟩⟩⟩
theorem hc_L_setNoise : ∀ E h, hdl [("java/lang/IllegalArgumentException", 12)] E = some h → ∃ pre x suf, tableOf [(0, 9, 12, 19)] = pre ++ x :: suf ∧ x.handlerPc = h ∧ covers x 4 = true ∧ x.catchType ≠ 0 ∧ Cond.classLink "TrialConverterLaw" x.catchType E ∈ TW ∧ Cond.castable E E ∈ TN ∧ ∀ z ∈ pre, z.catchType ≠ 0 ∧ ∃ nm', Cond.classLink "TrialConverterLaw" z.catchType nm' ∈ TW ∧ (E, nm') ∈ ncG := by
  intro E h he
  rw [hdl] at he
  by_cases e0 : "java/lang/IllegalArgumentException" = E
  · subst e0
    rw [if_pos rfl] at he
    cases he
    exact ⟨[], ⟨0, 9, 12, 19⟩, [], rfl, rfl, by decide, by decide, w3_119, tn3 129 rfl rfl, fun z hz => absurd hz List.not_mem_nil⟩
  rw [if_neg e0] at he
  cases he
set_option maxRecDepth 20000 in
theorem ok_L_setNoise : OkM yL_setNoise cL_setNoise 4 (some .int) (tableOf [(0, 9, 12, 19)]) tb_L_setNoise nmwG := by
  intro p l e R s m args below meth c Z D cy base c0 z0 d ks cl Q X S0 C Cy0 hcl hr hn hX
  exact List.forall_mem_cons.mpr ⟨ok_aload_n (pc := 0) (k := 2) C hX (by decide +kernel) rfl,
  List.forall_mem_cons.mpr ⟨ok_iconst (pc := 1) (n := 0) C hX (by decide +kernel) (by decide),
  List.forall_mem_cons.mpr ⟨ok_aload_n (pc := 2) (k := 0) C hX (by decide +kernel) rfl,
  List.forall_mem_cons.mpr ⟨ok_iload_n (pc := 3) (k := 1) C hX (by decide +kernel) rfl,
  List.forall_mem_cons.mpr ⟨ok_callvH (pc := 4) (y := n_X8_setNoise) (n := 2) (t := 10) (index := 42) C hX Cy0 hcl ny_X8_setNoise rfl w4_185 w4_182 w4_183 w4_184 w1_1 (by decide +kernel) (by decide) (by decide +kernel) hc_L_setNoise,
  List.forall_mem_cons.mpr ⟨ok_i2l (pc := 7) C hX (by decide +kernel),
  List.forall_mem_cons.mpr ⟨ok_jast (pc := 8) C hX (by decide +kernel),
  List.forall_mem_cons.mpr ⟨ok_goto (pc := 9) (off := 6) C hX (by decide +kernel) (by decide),
  List.forall_mem_cons.mpr ⟨ok_astore_n (pc := 12) (k := 3) C hX (by decide +kernel) rfl,
  List.forall_mem_cons.mpr ⟨ok_iconst (pc := 13) (n := 1) C hX (by decide +kernel) (by decide),
  List.forall_mem_cons.mpr ⟨ok_iret (pc := 14) C hX Cy0 hr (by decide +kernel),
  List.forall_mem_cons.mpr ⟨ok_iconst (pc := 15) (n := 0) C hX (by decide +kernel) (by decide),
  List.forall_mem_cons.mpr ⟨ok_iret (pc := 16) C hX Cy0 hr (by decide +kernel),
  fun q hq => absurd hq List.not_mem_nil⟩⟩⟩⟩⟩⟩⟩⟩⟩⟩⟩⟩⟩
theorem mn_L_setNoise : MonoT tb_L_setNoise := List.forall_mem_cons.mpr ⟨m_aload _ _,
  List.forall_mem_cons.mpr ⟨m_const _ _,
  List.forall_mem_cons.mpr ⟨m_aload _ _,
  List.forall_mem_cons.mpr ⟨m_iload _ _,
  List.forall_mem_cons.mpr ⟨m_callvH _ _ _ _ _,
  List.forall_mem_cons.mpr ⟨m_i2l _,
  List.forall_mem_cons.mpr ⟨m_jast _,
  List.forall_mem_cons.mpr ⟨m_goto _,
  List.forall_mem_cons.mpr ⟨m_astore _ _,
  List.forall_mem_cons.mpr ⟨m_const _ _,
  List.forall_mem_cons.mpr ⟨m_iret,
  List.forall_mem_cons.mpr ⟨m_const _ _,
  List.forall_mem_cons.mpr ⟨m_iret,
  fun q hq => absurd hq List.not_mem_nil⟩⟩⟩⟩⟩⟩⟩⟩⟩⟩⟩⟩⟩
theorem hc_L_convert : ∀ E h, hdl [("java/lang/IllegalArgumentException", 12)] E = some h → ∃ pre x suf, tableOf [(0, 9, 12, 19)] = pre ++ x :: suf ∧ x.handlerPc = h ∧ covers x 4 = true ∧ x.catchType ≠ 0 ∧ Cond.classLink "TrialConverterLaw" x.catchType E ∈ TW ∧ Cond.castable E E ∈ TN ∧ ∀ z ∈ pre, z.catchType ≠ 0 ∧ ∃ nm', Cond.classLink "TrialConverterLaw" z.catchType nm' ∈ TW ∧ (E, nm') ∈ ncG := by
  intro E h he
  rw [hdl] at he
  by_cases e0 : "java/lang/IllegalArgumentException" = E
  · subst e0
    rw [if_pos rfl] at he
    cases he
    exact ⟨[], ⟨0, 9, 12, 19⟩, [], rfl, rfl, by decide, by decide, w3_119, tn3 129 rfl rfl, fun z hz => absurd hz List.not_mem_nil⟩
  rw [if_neg e0] at he
  cases he
set_option maxRecDepth 20000 in
theorem ok_L_convert : OkM yL_convert cL_convert 4 (some .int) (tableOf [(0, 9, 12, 19)]) tb_L_convert nmwG := by
  intro p l e R s m args below meth c Z D cy base c0 z0 d ks cl Q X S0 C Cy0 hcl hr hn hX
  exact List.forall_mem_cons.mpr ⟨ok_aload_n (pc := 0) (k := 2) C hX (by decide +kernel) rfl,
  List.forall_mem_cons.mpr ⟨ok_iconst (pc := 1) (n := 0) C hX (by decide +kernel) (by decide),
  List.forall_mem_cons.mpr ⟨ok_aload_n (pc := 2) (k := 0) C hX (by decide +kernel) rfl,
  List.forall_mem_cons.mpr ⟨ok_iload_n (pc := 3) (k := 1) C hX (by decide +kernel) rfl,
  List.forall_mem_cons.mpr ⟨ok_callvH (pc := 4) (y := n_X8_convert) (n := 2) (t := 10) (index := 45) C hX Cy0 hcl ny_X8_convert rfl w4_193 w4_190 w4_191 w4_192 w1_1 (by decide +kernel) (by decide) (by decide +kernel) hc_L_convert,
  List.forall_mem_cons.mpr ⟨ok_i2l (pc := 7) C hX (by decide +kernel),
  List.forall_mem_cons.mpr ⟨ok_jast (pc := 8) C hX (by decide +kernel),
  List.forall_mem_cons.mpr ⟨ok_goto (pc := 9) (off := 6) C hX (by decide +kernel) (by decide),
  List.forall_mem_cons.mpr ⟨ok_astore_n (pc := 12) (k := 3) C hX (by decide +kernel) rfl,
  List.forall_mem_cons.mpr ⟨ok_iconst (pc := 13) (n := 1) C hX (by decide +kernel) (by decide),
  List.forall_mem_cons.mpr ⟨ok_iret (pc := 14) C hX Cy0 hr (by decide +kernel),
  List.forall_mem_cons.mpr ⟨ok_iconst (pc := 15) (n := 0) C hX (by decide +kernel) (by decide),
  List.forall_mem_cons.mpr ⟨ok_iret (pc := 16) C hX Cy0 hr (by decide +kernel),
  fun q hq => absurd hq List.not_mem_nil⟩⟩⟩⟩⟩⟩⟩⟩⟩⟩⟩⟩⟩
theorem mn_L_convert : MonoT tb_L_convert := List.forall_mem_cons.mpr ⟨m_aload _ _,
  List.forall_mem_cons.mpr ⟨m_const _ _,
  List.forall_mem_cons.mpr ⟨m_aload _ _,
  List.forall_mem_cons.mpr ⟨m_iload _ _,
  List.forall_mem_cons.mpr ⟨m_callvH _ _ _ _ _,
  List.forall_mem_cons.mpr ⟨m_i2l _,
  List.forall_mem_cons.mpr ⟨m_jast _,
  List.forall_mem_cons.mpr ⟨m_goto _,
  List.forall_mem_cons.mpr ⟨m_astore _ _,
  List.forall_mem_cons.mpr ⟨m_const _ _,
  List.forall_mem_cons.mpr ⟨m_iret,
  List.forall_mem_cons.mpr ⟨m_const _ _,
  List.forall_mem_cons.mpr ⟨m_iret,
  fun q hq => absurd hq List.not_mem_nil⟩⟩⟩⟩⟩⟩⟩⟩⟩⟩⟩⟩⟩
theorem hc_L_average : ∀ E h, hdl [("java/lang/IllegalArgumentException", 13)] E = some h → ∃ pre x suf, tableOf [(0, 10, 13, 19)] = pre ++ x :: suf ∧ x.handlerPc = h ∧ covers x 5 = true ∧ x.catchType ≠ 0 ∧ Cond.classLink "TrialConverterLaw" x.catchType E ∈ TW ∧ Cond.castable E E ∈ TN ∧ ∀ z ∈ pre, z.catchType ≠ 0 ∧ ∃ nm', Cond.classLink "TrialConverterLaw" z.catchType nm' ∈ TW ∧ (E, nm') ∈ ncG := by
  intro E h he
  rw [hdl] at he
  by_cases e0 : "java/lang/IllegalArgumentException" = E
  · subst e0
    rw [if_pos rfl] at he
    cases he
    exact ⟨[], ⟨0, 10, 13, 19⟩, [], rfl, rfl, by decide, by decide, w3_119, tn3 129 rfl rfl, fun z hz => absurd hz List.not_mem_nil⟩
  rw [if_neg e0] at he
  cases he
set_option maxRecDepth 20000 in
theorem ok_L_average : OkM yL_average cL_average 5 (some .int) (tableOf [(0, 10, 13, 19)]) tb_L_average nmwG := by
  intro p l e R s m args below meth c Z D cy base c0 z0 d ks cl Q X S0 C Cy0 hcl hr hn hX
  exact List.forall_mem_cons.mpr ⟨ok_aload_n (pc := 0) (k := 3) C hX (by decide +kernel) rfl,
  List.forall_mem_cons.mpr ⟨ok_iconst (pc := 1) (n := 0) C hX (by decide +kernel) (by decide),
  List.forall_mem_cons.mpr ⟨ok_aload_n (pc := 2) (k := 0) C hX (by decide +kernel) rfl,
  List.forall_mem_cons.mpr ⟨ok_iload_n (pc := 3) (k := 1) C hX (by decide +kernel) rfl,
  List.forall_mem_cons.mpr ⟨ok_iload_n (pc := 4) (k := 2) C hX (by decide +kernel) rfl,
  List.forall_mem_cons.mpr ⟨ok_callvH (pc := 5) (y := n_X8_average) (n := 3) (t := 10) (index := 48) C hX Cy0 hcl ny_X8_average rfl w4_213 w4_210 w4_211 w4_212 w1_1 (by decide +kernel) (by decide) (by decide +kernel) hc_L_average,
  List.forall_mem_cons.mpr ⟨ok_f2d (pc := 8) C hX (by decide +kernel),
  List.forall_mem_cons.mpr ⟨ok_dast (pc := 9) C hX (by decide +kernel),
  List.forall_mem_cons.mpr ⟨ok_goto (pc := 10) (off := 7) C hX (by decide +kernel) (by decide),
  List.forall_mem_cons.mpr ⟨ok_astore (pc := 13) (k := 4) C hX (by decide +kernel),
  List.forall_mem_cons.mpr ⟨ok_iconst (pc := 15) (n := 1) C hX (by decide +kernel) (by decide),
  List.forall_mem_cons.mpr ⟨ok_iret (pc := 16) C hX Cy0 hr (by decide +kernel),
  List.forall_mem_cons.mpr ⟨ok_iconst (pc := 17) (n := 0) C hX (by decide +kernel) (by decide),
  List.forall_mem_cons.mpr ⟨ok_iret (pc := 18) C hX Cy0 hr (by decide +kernel),
  fun q hq => absurd hq List.not_mem_nil⟩⟩⟩⟩⟩⟩⟩⟩⟩⟩⟩⟩⟩⟩
theorem mn_L_average : MonoT tb_L_average := List.forall_mem_cons.mpr ⟨m_aload _ _,
  List.forall_mem_cons.mpr ⟨m_const _ _,
  List.forall_mem_cons.mpr ⟨m_aload _ _,
  List.forall_mem_cons.mpr ⟨m_iload _ _,
  List.forall_mem_cons.mpr ⟨m_iload _ _,
  List.forall_mem_cons.mpr ⟨m_callvH _ _ _ _ _,
  List.forall_mem_cons.mpr ⟨m_f2d _,
  List.forall_mem_cons.mpr ⟨m_dast _,
  List.forall_mem_cons.mpr ⟨m_goto _,
  List.forall_mem_cons.mpr ⟨m_astore _ _,
  List.forall_mem_cons.mpr ⟨m_const _ _,
  List.forall_mem_cons.mpr ⟨m_iret,
  List.forall_mem_cons.mpr ⟨m_const _ _,
  List.forall_mem_cons.mpr ⟨m_iret,
  fun q hq => absurd hq List.not_mem_nil⟩⟩⟩⟩⟩⟩⟩⟩⟩⟩⟩⟩⟩⟩
theorem hc_L_quiet : ∀ E h, hdl [("java/lang/IllegalArgumentException", 12)] E = some h → ∃ pre x suf, tableOf [(0, 9, 12, 19)] = pre ++ x :: suf ∧ x.handlerPc = h ∧ covers x 4 = true ∧ x.catchType ≠ 0 ∧ Cond.classLink "TrialConverterLaw" x.catchType E ∈ TW ∧ Cond.castable E E ∈ TN ∧ ∀ z ∈ pre, z.catchType ≠ 0 ∧ ∃ nm', Cond.classLink "TrialConverterLaw" z.catchType nm' ∈ TW ∧ (E, nm') ∈ ncG := by
  intro E h he
  rw [hdl] at he
  by_cases e0 : "java/lang/IllegalArgumentException" = E
  · subst e0
    rw [if_pos rfl] at he
    cases he
    exact ⟨[], ⟨0, 9, 12, 19⟩, [], rfl, rfl, by decide, by decide, w3_119, tn3 129 rfl rfl, fun z hz => absurd hz List.not_mem_nil⟩
  rw [if_neg e0] at he
  cases he
set_option maxRecDepth 20000 in
theorem ok_L_quiet : OkM yL_quiet cL_quiet 4 (some .int) (tableOf [(0, 9, 12, 19)]) tb_L_quiet nmwG := by
  intro p l e R s m args below meth c Z D cy base c0 z0 d ks cl Q X S0 C Cy0 hcl hr hn hX
  exact List.forall_mem_cons.mpr ⟨ok_aload_n (pc := 0) (k := 2) C hX (by decide +kernel) rfl,
  List.forall_mem_cons.mpr ⟨ok_iconst (pc := 1) (n := 0) C hX (by decide +kernel) (by decide),
  List.forall_mem_cons.mpr ⟨ok_aload_n (pc := 2) (k := 0) C hX (by decide +kernel) rfl,
  List.forall_mem_cons.mpr ⟨ok_iload_n (pc := 3) (k := 1) C hX (by decide +kernel) rfl,
  List.forall_mem_cons.mpr ⟨ok_callvH (pc := 4) (y := n_X8_quiet) (n := 2) (t := 10) (index := 52) C hX Cy0 hcl ny_X8_quiet rfl w4_220 w4_217 w4_218 w4_219 w1_1 (by decide +kernel) (by decide) (by decide +kernel) hc_L_quiet,
  List.forall_mem_cons.mpr ⟨ok_i2l (pc := 7) C hX (by decide +kernel),
  List.forall_mem_cons.mpr ⟨ok_jast (pc := 8) C hX (by decide +kernel),
  List.forall_mem_cons.mpr ⟨ok_goto (pc := 9) (off := 6) C hX (by decide +kernel) (by decide),
  List.forall_mem_cons.mpr ⟨ok_astore_n (pc := 12) (k := 3) C hX (by decide +kernel) rfl,
  List.forall_mem_cons.mpr ⟨ok_iconst (pc := 13) (n := 1) C hX (by decide +kernel) (by decide),
  List.forall_mem_cons.mpr ⟨ok_iret (pc := 14) C hX Cy0 hr (by decide +kernel),
  List.forall_mem_cons.mpr ⟨ok_iconst (pc := 15) (n := 0) C hX (by decide +kernel) (by decide),
  List.forall_mem_cons.mpr ⟨ok_iret (pc := 16) C hX Cy0 hr (by decide +kernel),
  fun q hq => absurd hq List.not_mem_nil⟩⟩⟩⟩⟩⟩⟩⟩⟩⟩⟩⟩⟩
theorem mn_L_quiet : MonoT tb_L_quiet := List.forall_mem_cons.mpr ⟨m_aload _ _,
  List.forall_mem_cons.mpr ⟨m_const _ _,
  List.forall_mem_cons.mpr ⟨m_aload _ _,
  List.forall_mem_cons.mpr ⟨m_iload _ _,
  List.forall_mem_cons.mpr ⟨m_callvH _ _ _ _ _,
  List.forall_mem_cons.mpr ⟨m_i2l _,
  List.forall_mem_cons.mpr ⟨m_jast _,
  List.forall_mem_cons.mpr ⟨m_goto _,
  List.forall_mem_cons.mpr ⟨m_astore _ _,
  List.forall_mem_cons.mpr ⟨m_const _ _,
  List.forall_mem_cons.mpr ⟨m_iret,
  List.forall_mem_cons.mpr ⟨m_const _ _,
  List.forall_mem_cons.mpr ⟨m_iret,
  fun q hq => absurd hq List.not_mem_nil⟩⟩⟩⟩⟩⟩⟩⟩⟩⟩⟩⟩⟩
theorem hc_L_spread : ∀ E h, hdl [("java/lang/IllegalArgumentException", 13)] E = some h → ∃ pre x suf, tableOf [(0, 10, 13, 19)] = pre ++ x :: suf ∧ x.handlerPc = h ∧ covers x 5 = true ∧ x.catchType ≠ 0 ∧ Cond.classLink "TrialConverterLaw" x.catchType E ∈ TW ∧ Cond.castable E E ∈ TN ∧ ∀ z ∈ pre, z.catchType ≠ 0 ∧ ∃ nm', Cond.classLink "TrialConverterLaw" z.catchType nm' ∈ TW ∧ (E, nm') ∈ ncG := by
  intro E h he
  rw [hdl] at he
  by_cases e0 : "java/lang/IllegalArgumentException" = E
  · subst e0
    rw [if_pos rfl] at he
    cases he
    exact ⟨[], ⟨0, 10, 13, 19⟩, [], rfl, rfl, by decide, by decide, w3_119, tn3 129 rfl rfl, fun z hz => absurd hz List.not_mem_nil⟩
  rw [if_neg e0] at he
  cases he
set_option maxRecDepth 20000 in
theorem ok_L_spread : OkM yL_spread cL_spread 5 (some .int) (tableOf [(0, 10, 13, 19)]) tb_L_spread nmwG := by
  intro p l e R s m args below meth c Z D cy base c0 z0 d ks cl Q X S0 C Cy0 hcl hr hn hX
  exact List.forall_mem_cons.mpr ⟨ok_aload_n (pc := 0) (k := 3) C hX (by decide +kernel) rfl,
  List.forall_mem_cons.mpr ⟨ok_iconst (pc := 1) (n := 0) C hX (by decide +kernel) (by decide),
  List.forall_mem_cons.mpr ⟨ok_aload_n (pc := 2) (k := 0) C hX (by decide +kernel) rfl,
  List.forall_mem_cons.mpr ⟨ok_iload_n (pc := 3) (k := 1) C hX (by decide +kernel) rfl,
  List.forall_mem_cons.mpr ⟨ok_iload_n (pc := 4) (k := 2) C hX (by decide +kernel) rfl,
  List.forall_mem_cons.mpr ⟨ok_callvH (pc := 5) (y := n_X8_spread) (n := 3) (t := 10) (index := 55) C hX Cy0 hcl ny_X8_spread rfl w4_228 w4_225 w4_226 w4_227 w1_1 (by decide +kernel) (by decide) (by decide +kernel) hc_L_spread,
  List.forall_mem_cons.mpr ⟨ok_i2l (pc := 8) C hX (by decide +kernel),
  List.forall_mem_cons.mpr ⟨ok_jast (pc := 9) C hX (by decide +kernel),
  List.forall_mem_cons.mpr ⟨ok_goto (pc := 10) (off := 7) C hX (by decide +kernel) (by decide),
  List.forall_mem_cons.mpr ⟨ok_astore (pc := 13) (k := 4) C hX (by decide +kernel),
  List.forall_mem_cons.mpr ⟨ok_iconst (pc := 15) (n := 1) C hX (by decide +kernel) (by decide),
  List.forall_mem_cons.mpr ⟨ok_iret (pc := 16) C hX Cy0 hr (by decide +kernel),
  List.forall_mem_cons.mpr ⟨ok_iconst (pc := 17) (n := 0) C hX (by decide +kernel) (by decide),
  List.forall_mem_cons.mpr ⟨ok_iret (pc := 18) C hX Cy0 hr (by decide +kernel),
  fun q hq => absurd hq List.not_mem_nil⟩⟩⟩⟩⟩⟩⟩⟩⟩⟩⟩⟩⟩⟩
theorem mn_L_spread : MonoT tb_L_spread := List.forall_mem_cons.mpr ⟨m_aload _ _,
  List.forall_mem_cons.mpr ⟨m_const _ _,
  List.forall_mem_cons.mpr ⟨m_aload _ _,
  List.forall_mem_cons.mpr ⟨m_iload _ _,
  List.forall_mem_cons.mpr ⟨m_iload _ _,
  List.forall_mem_cons.mpr ⟨m_callvH _ _ _ _ _,
  List.forall_mem_cons.mpr ⟨m_i2l _,
  List.forall_mem_cons.mpr ⟨m_jast _,
  List.forall_mem_cons.mpr ⟨m_goto _,
  List.forall_mem_cons.mpr ⟨m_astore _ _,
  List.forall_mem_cons.mpr ⟨m_const _ _,
  List.forall_mem_cons.mpr ⟨m_iret,
  List.forall_mem_cons.mpr ⟨m_const _ _,
  List.forall_mem_cons.mpr ⟨m_iret,
  fun q hq => absurd hq List.not_mem_nil⟩⟩⟩⟩⟩⟩⟩⟩⟩⟩⟩⟩⟩⟩
theorem hc_L_conversion : ∀ E h, hdl [("java/lang/IndexOutOfBoundsException", 13), ("java/lang/IllegalArgumentException", 17)] E = some h → ∃ pre x suf, tableOf [(0, 10, 13, 28), (0, 10, 17, 19)] = pre ++ x :: suf ∧ x.handlerPc = h ∧ covers x 5 = true ∧ x.catchType ≠ 0 ∧ Cond.classLink "TrialConverterLaw" x.catchType E ∈ TW ∧ Cond.castable E E ∈ TN ∧ ∀ z ∈ pre, z.catchType ≠ 0 ∧ ∃ nm', Cond.classLink "TrialConverterLaw" z.catchType nm' ∈ TW ∧ (E, nm') ∈ ncG := by
  intro E h he
  rw [hdl] at he
  by_cases e0 : "java/lang/IndexOutOfBoundsException" = E
  · subst e0
    rw [if_pos rfl] at he
    cases he
    exact ⟨[], ⟨0, 10, 13, 28⟩, [⟨0, 10, 17, 19⟩], rfl, rfl, by decide, by decide, w4_87, tn4 94 rfl rfl, fun z hz => absurd hz List.not_mem_nil⟩
  rw [if_neg e0] at he
  rw [hdl] at he
  by_cases e1 : "java/lang/IllegalArgumentException" = E
  · subst e1
    rw [if_pos rfl] at he
    cases he
    exact ⟨[⟨0, 10, 13, 28⟩], ⟨0, 10, 17, 19⟩, [], rfl, rfl, by decide, by decide, w3_119, tn3 129 rfl rfl, List.forall_mem_cons.mpr ⟨⟨by decide, "java/lang/IndexOutOfBoundsException", w4_87, by decide⟩, fun z hz => absurd hz List.not_mem_nil⟩⟩
  rw [if_neg e1] at he
  cases he
set_option maxRecDepth 20000 in
theorem ok_L_conversion : OkM yL_conversion cL_conversion 5 (some .int) (tableOf [(0, 10, 13, 28), (0, 10, 17, 19)]) tb_L_conversion nmwG := by
  intro p l e R s m args below meth c Z D cy base c0 z0 d ks cl Q X S0 C Cy0 hcl hr hn hX
  exact List.forall_mem_cons.mpr ⟨ok_aload_n (pc := 0) (k := 3) C hX (by decide +kernel) rfl,
  List.forall_mem_cons.mpr ⟨ok_iconst (pc := 1) (n := 0) C hX (by decide +kernel) (by decide),
  List.forall_mem_cons.mpr ⟨ok_aload_n (pc := 2) (k := 0) C hX (by decide +kernel) rfl,
  List.forall_mem_cons.mpr ⟨ok_iload_n (pc := 3) (k := 1) C hX (by decide +kernel) rfl,
  List.forall_mem_cons.mpr ⟨ok_iload_n (pc := 4) (k := 2) C hX (by decide +kernel) rfl,
  List.forall_mem_cons.mpr ⟨ok_callvH (pc := 5) (y := n_X8_conversion) (n := 3) (t := 10) (index := 58) C hX Cy0 hcl ny_X8_conversion rfl w4_239 w4_236 w4_237 w4_238 w1_1 (by decide +kernel) (by decide) (by decide +kernel) hc_L_conversion,
  List.forall_mem_cons.mpr ⟨ok_i2l (pc := 8) C hX (by decide +kernel),
  List.forall_mem_cons.mpr ⟨ok_jast (pc := 9) C hX (by decide +kernel),
  List.forall_mem_cons.mpr ⟨ok_goto (pc := 10) (off := 11) C hX (by decide +kernel) (by decide),
  List.forall_mem_cons.mpr ⟨ok_astore (pc := 13) (k := 4) C hX (by decide +kernel),
  List.forall_mem_cons.mpr ⟨ok_iconst (pc := 15) (n := 1) C hX (by decide +kernel) (by decide),
  List.forall_mem_cons.mpr ⟨ok_iret (pc := 16) C hX Cy0 hr (by decide +kernel),
  List.forall_mem_cons.mpr ⟨ok_astore (pc := 17) (k := 4) C hX (by decide +kernel),
  List.forall_mem_cons.mpr ⟨ok_iconst (pc := 19) (n := 2) C hX (by decide +kernel) (by decide),
  List.forall_mem_cons.mpr ⟨ok_iret (pc := 20) C hX Cy0 hr (by decide +kernel),
  List.forall_mem_cons.mpr ⟨ok_iconst (pc := 21) (n := 0) C hX (by decide +kernel) (by decide),
  List.forall_mem_cons.mpr ⟨ok_iret (pc := 22) C hX Cy0 hr (by decide +kernel),
  fun q hq => absurd hq List.not_mem_nil⟩⟩⟩⟩⟩⟩⟩⟩⟩⟩⟩⟩⟩⟩⟩⟩⟩
theorem mn_L_conversion : MonoT tb_L_conversion := List.forall_mem_cons.mpr ⟨m_aload _ _,
  List.forall_mem_cons.mpr ⟨m_const _ _,
  List.forall_mem_cons.mpr ⟨m_aload _ _,
  List.forall_mem_cons.mpr ⟨m_iload _ _,
  List.forall_mem_cons.mpr ⟨m_iload _ _,
  List.forall_mem_cons.mpr ⟨m_callvH _ _ _ _ _,
  List.forall_mem_cons.mpr ⟨m_i2l _,
  List.forall_mem_cons.mpr ⟨m_jast _,
  List.forall_mem_cons.mpr ⟨m_goto _,
  List.forall_mem_cons.mpr ⟨m_astore _ _,
  List.forall_mem_cons.mpr ⟨m_const _ _,
  List.forall_mem_cons.mpr ⟨m_iret,
  List.forall_mem_cons.mpr ⟨m_astore _ _,
  List.forall_mem_cons.mpr ⟨m_const _ _,
  List.forall_mem_cons.mpr ⟨m_iret,
  List.forall_mem_cons.mpr ⟨m_const _ _,
  List.forall_mem_cons.mpr ⟨m_iret,
  fun q hq => absurd hq List.not_mem_nil⟩⟩⟩⟩⟩⟩⟩⟩⟩⟩⟩⟩⟩⟩⟩⟩⟩
theorem hc_L_trial : ∀ E h, hdl [("java/lang/IndexOutOfBoundsException", 15), ("java/lang/IllegalArgumentException", 19)] E = some h → ∃ pre x suf, tableOf [(0, 12, 15, 28), (0, 12, 19, 19)] = pre ++ x :: suf ∧ x.handlerPc = h ∧ covers x 7 = true ∧ x.catchType ≠ 0 ∧ Cond.classLink "TrialConverterLaw" x.catchType E ∈ TW ∧ Cond.castable E E ∈ TN ∧ ∀ z ∈ pre, z.catchType ≠ 0 ∧ ∃ nm', Cond.classLink "TrialConverterLaw" z.catchType nm' ∈ TW ∧ (E, nm') ∈ ncG := by
  intro E h he
  rw [hdl] at he
  by_cases e0 : "java/lang/IndexOutOfBoundsException" = E
  · subst e0
    rw [if_pos rfl] at he
    cases he
    exact ⟨[], ⟨0, 12, 15, 28⟩, [⟨0, 12, 19, 19⟩], rfl, rfl, by decide, by decide, w4_87, tn4 94 rfl rfl, fun z hz => absurd hz List.not_mem_nil⟩
  rw [if_neg e0] at he
  rw [hdl] at he
  by_cases e1 : "java/lang/IllegalArgumentException" = E
  · subst e1
    rw [if_pos rfl] at he
    cases he
    exact ⟨[⟨0, 12, 15, 28⟩], ⟨0, 12, 19, 19⟩, [], rfl, rfl, by decide, by decide, w3_119, tn3 129 rfl rfl, List.forall_mem_cons.mpr ⟨⟨by decide, "java/lang/IndexOutOfBoundsException", w4_87, by decide⟩, fun z hz => absurd hz List.not_mem_nil⟩⟩
  rw [if_neg e1] at he
  cases he
set_option maxRecDepth 20000 in
theorem ok_L_trial : OkM yL_trial cL_trial 6 (some .int) (tableOf [(0, 12, 15, 28), (0, 12, 19, 19)]) tb_L_trial nmwG := by
  intro p l e R s m args below meth c Z D cy base c0 z0 d ks cl Q X S0 C Cy0 hcl hr hn hX
  exact List.forall_mem_cons.mpr ⟨ok_aload (pc := 0) (k := 4) C hX (by decide +kernel),
  List.forall_mem_cons.mpr ⟨ok_iconst (pc := 2) (n := 0) C hX (by decide +kernel) (by decide),
  List.forall_mem_cons.mpr ⟨ok_aload_n (pc := 3) (k := 0) C hX (by decide +kernel) rfl,
  List.forall_mem_cons.mpr ⟨ok_iload_n (pc := 4) (k := 1) C hX (by decide +kernel) rfl,
  List.forall_mem_cons.mpr ⟨ok_iload_n (pc := 5) (k := 2) C hX (by decide +kernel) rfl,
  List.forall_mem_cons.mpr ⟨ok_iload_n (pc := 6) (k := 3) C hX (by decide +kernel) rfl,
  List.forall_mem_cons.mpr ⟨ok_callvH (pc := 7) (y := n_X8_trial) (n := 4) (t := 10) (index := 61) C hX Cy0 hcl ny_X8_trial rfl w5_13 w5_10 w5_11 w5_12 w1_1 (by decide +kernel) (by decide) (by decide +kernel) hc_L_trial,
  List.forall_mem_cons.mpr ⟨ok_i2l (pc := 10) C hX (by decide +kernel),
  List.forall_mem_cons.mpr ⟨ok_jast (pc := 11) C hX (by decide +kernel),
  List.forall_mem_cons.mpr ⟨ok_goto (pc := 12) (off := 11) C hX (by decide +kernel) (by decide),
  List.forall_mem_cons.mpr ⟨ok_astore (pc := 15) (k := 5) C hX (by decide +kernel),
  List.forall_mem_cons.mpr ⟨ok_iconst (pc := 17) (n := 1) C hX (by decide +kernel) (by decide),
  List.forall_mem_cons.mpr ⟨ok_iret (pc := 18) C hX Cy0 hr (by decide +kernel),
  List.forall_mem_cons.mpr ⟨ok_astore (pc := 19) (k := 5) C hX (by decide +kernel),
  List.forall_mem_cons.mpr ⟨ok_iconst (pc := 21) (n := 2) C hX (by decide +kernel) (by decide),
  List.forall_mem_cons.mpr ⟨ok_iret (pc := 22) C hX Cy0 hr (by decide +kernel),
  List.forall_mem_cons.mpr ⟨ok_iconst (pc := 23) (n := 0) C hX (by decide +kernel) (by decide),
  List.forall_mem_cons.mpr ⟨ok_iret (pc := 24) C hX Cy0 hr (by decide +kernel),
  fun q hq => absurd hq List.not_mem_nil⟩⟩⟩⟩⟩⟩⟩⟩⟩⟩⟩⟩⟩⟩⟩⟩⟩⟩
theorem mn_L_trial : MonoT tb_L_trial := List.forall_mem_cons.mpr ⟨m_aload _ _,
  List.forall_mem_cons.mpr ⟨m_const _ _,
  List.forall_mem_cons.mpr ⟨m_aload _ _,
  List.forall_mem_cons.mpr ⟨m_iload _ _,
  List.forall_mem_cons.mpr ⟨m_iload _ _,
  List.forall_mem_cons.mpr ⟨m_iload _ _,
  List.forall_mem_cons.mpr ⟨m_callvH _ _ _ _ _,
  List.forall_mem_cons.mpr ⟨m_i2l _,
  List.forall_mem_cons.mpr ⟨m_jast _,
  List.forall_mem_cons.mpr ⟨m_goto _,
  List.forall_mem_cons.mpr ⟨m_astore _ _,
  List.forall_mem_cons.mpr ⟨m_const _ _,
  List.forall_mem_cons.mpr ⟨m_iret,
  List.forall_mem_cons.mpr ⟨m_astore _ _,
  List.forall_mem_cons.mpr ⟨m_const _ _,
  List.forall_mem_cons.mpr ⟨m_iret,
  List.forall_mem_cons.mpr ⟨m_const _ _,
  List.forall_mem_cons.mpr ⟨m_iret,
  fun q hq => absurd hq List.not_mem_nil⟩⟩⟩⟩⟩⟩⟩⟩⟩⟩⟩⟩⟩⟩⟩⟩⟩⟩
theorem hc_L_seenAt : ∀ E h, hdl [("java/lang/IndexOutOfBoundsException", 12)] E = some h → ∃ pre x suf, tableOf [(0, 9, 12, 28)] = pre ++ x :: suf ∧ x.handlerPc = h ∧ covers x 4 = true ∧ x.catchType ≠ 0 ∧ Cond.classLink "TrialConverterLaw" x.catchType E ∈ TW ∧ Cond.castable E E ∈ TN ∧ ∀ z ∈ pre, z.catchType ≠ 0 ∧ ∃ nm', Cond.classLink "TrialConverterLaw" z.catchType nm' ∈ TW ∧ (E, nm') ∈ ncG := by
  intro E h he
  rw [hdl] at he
  by_cases e0 : "java/lang/IndexOutOfBoundsException" = E
  · subst e0
    rw [if_pos rfl] at he
    cases he
    exact ⟨[], ⟨0, 9, 12, 28⟩, [], rfl, rfl, by decide, by decide, w4_87, tn4 94 rfl rfl, fun z hz => absurd hz List.not_mem_nil⟩
  rw [if_neg e0] at he
  cases he
set_option maxRecDepth 20000 in
theorem ok_L_seenAt : OkM yL_seenAt cL_seenAt 4 (some .int) (tableOf [(0, 9, 12, 28)]) tb_L_seenAt nmwG := by
  intro p l e R s m args below meth c Z D cy base c0 z0 d ks cl Q X S0 C Cy0 hcl hr hn hX
  exact List.forall_mem_cons.mpr ⟨ok_aload_n (pc := 0) (k := 2) C hX (by decide +kernel) rfl,
  List.forall_mem_cons.mpr ⟨ok_iconst (pc := 1) (n := 0) C hX (by decide +kernel) (by decide),
  List.forall_mem_cons.mpr ⟨ok_aload_n (pc := 2) (k := 0) C hX (by decide +kernel) rfl,
  List.forall_mem_cons.mpr ⟨ok_iload_n (pc := 3) (k := 1) C hX (by decide +kernel) rfl,
  List.forall_mem_cons.mpr ⟨ok_callvH (pc := 4) (y := n_X8_seenAt) (n := 2) (t := 10) (index := 65) C hX Cy0 hcl ny_X8_seenAt rfl w5_26 w5_23 w5_24 w5_25 w1_1 (by decide +kernel) (by decide) (by decide +kernel) hc_L_seenAt,
  List.forall_mem_cons.mpr ⟨ok_i2l (pc := 7) C hX (by decide +kernel),
  List.forall_mem_cons.mpr ⟨ok_jast (pc := 8) C hX (by decide +kernel),
  List.forall_mem_cons.mpr ⟨ok_goto (pc := 9) (off := 6) C hX (by decide +kernel) (by decide),
  List.forall_mem_cons.mpr ⟨ok_astore_n (pc := 12) (k := 3) C hX (by decide +kernel) rfl,
  List.forall_mem_cons.mpr ⟨ok_iconst (pc := 13) (n := 1) C hX (by decide +kernel) (by decide),
  List.forall_mem_cons.mpr ⟨ok_iret (pc := 14) C hX Cy0 hr (by decide +kernel),
  List.forall_mem_cons.mpr ⟨ok_iconst (pc := 15) (n := 0) C hX (by decide +kernel) (by decide),
  List.forall_mem_cons.mpr ⟨ok_iret (pc := 16) C hX Cy0 hr (by decide +kernel),
  fun q hq => absurd hq List.not_mem_nil⟩⟩⟩⟩⟩⟩⟩⟩⟩⟩⟩⟩⟩
theorem mn_L_seenAt : MonoT tb_L_seenAt := List.forall_mem_cons.mpr ⟨m_aload _ _,
  List.forall_mem_cons.mpr ⟨m_const _ _,
  List.forall_mem_cons.mpr ⟨m_aload _ _,
  List.forall_mem_cons.mpr ⟨m_iload _ _,
  List.forall_mem_cons.mpr ⟨m_callvH _ _ _ _ _,
  List.forall_mem_cons.mpr ⟨m_i2l _,
  List.forall_mem_cons.mpr ⟨m_jast _,
  List.forall_mem_cons.mpr ⟨m_goto _,
  List.forall_mem_cons.mpr ⟨m_astore _ _,
  List.forall_mem_cons.mpr ⟨m_const _ _,
  List.forall_mem_cons.mpr ⟨m_iret,
  List.forall_mem_cons.mpr ⟨m_const _ _,
  List.forall_mem_cons.mpr ⟨m_iret,
  fun q hq => absurd hq List.not_mem_nil⟩⟩⟩⟩⟩⟩⟩⟩⟩⟩⟩⟩⟩
theorem hc_L_mostSeen : ∀ E h, hdl [("java/util/NoSuchElementException", 11)] E = some h → ∃ pre x suf, tableOf [(0, 8, 11, 72)] = pre ++ x :: suf ∧ x.handlerPc = h ∧ covers x 3 = true ∧ x.catchType ≠ 0 ∧ Cond.classLink "TrialConverterLaw" x.catchType E ∈ TW ∧ Cond.castable E E ∈ TN ∧ ∀ z ∈ pre, z.catchType ≠ 0 ∧ ∃ nm', Cond.classLink "TrialConverterLaw" z.catchType nm' ∈ TW ∧ (E, nm') ∈ ncG := by
  intro E h he
  rw [hdl] at he
  by_cases e0 : "java/util/NoSuchElementException" = E
  · subst e0
    rw [if_pos rfl] at he
    cases he
    exact ⟨[], ⟨0, 8, 11, 72⟩, [], rfl, rfl, by decide, by decide, w5_31, tn5 38 rfl rfl, fun z hz => absurd hz List.not_mem_nil⟩
  rw [if_neg e0] at he
  cases he
set_option maxRecDepth 20000 in
theorem ok_L_mostSeen : OkM yL_mostSeen cL_mostSeen 3 (some .int) (tableOf [(0, 8, 11, 72)]) tb_L_mostSeen nmwG := by
  intro p l e R s m args below meth c Z D cy base c0 z0 d ks cl Q X S0 C Cy0 hcl hr hn hX
  exact List.forall_mem_cons.mpr ⟨ok_aload_n (pc := 0) (k := 1) C hX (by decide +kernel) rfl,
  List.forall_mem_cons.mpr ⟨ok_iconst (pc := 1) (n := 0) C hX (by decide +kernel) (by decide),
  List.forall_mem_cons.mpr ⟨ok_aload_n (pc := 2) (k := 0) C hX (by decide +kernel) rfl,
  List.forall_mem_cons.mpr ⟨ok_callvH (pc := 3) (y := n_X8_mostSeen) (n := 1) (t := 10) (index := 68) C hX Cy0 hcl ny_X8_mostSeen rfl w5_35 w5_32 w5_33 w5_34 w1_1 (by decide +kernel) (by decide) (by decide +kernel) hc_L_mostSeen,
  List.forall_mem_cons.mpr ⟨ok_i2l (pc := 6) C hX (by decide +kernel),
  List.forall_mem_cons.mpr ⟨ok_jast (pc := 7) C hX (by decide +kernel),
  List.forall_mem_cons.mpr ⟨ok_goto (pc := 8) (off := 6) C hX (by decide +kernel) (by decide),
  List.forall_mem_cons.mpr ⟨ok_astore_n (pc := 11) (k := 2) C hX (by decide +kernel) rfl,
  List.forall_mem_cons.mpr ⟨ok_iconst (pc := 12) (n := 1) C hX (by decide +kernel) (by decide),
  List.forall_mem_cons.mpr ⟨ok_iret (pc := 13) C hX Cy0 hr (by decide +kernel),
  List.forall_mem_cons.mpr ⟨ok_iconst (pc := 14) (n := 0) C hX (by decide +kernel) (by decide),
  List.forall_mem_cons.mpr ⟨ok_iret (pc := 15) C hX Cy0 hr (by decide +kernel),
  fun q hq => absurd hq List.not_mem_nil⟩⟩⟩⟩⟩⟩⟩⟩⟩⟩⟩⟩
theorem mn_L_mostSeen : MonoT tb_L_mostSeen := List.forall_mem_cons.mpr ⟨m_aload _ _,
  List.forall_mem_cons.mpr ⟨m_const _ _,
  List.forall_mem_cons.mpr ⟨m_aload _ _,
  List.forall_mem_cons.mpr ⟨m_callvH _ _ _ _ _,
  List.forall_mem_cons.mpr ⟨m_i2l _,
  List.forall_mem_cons.mpr ⟨m_jast _,
  List.forall_mem_cons.mpr ⟨m_goto _,
  List.forall_mem_cons.mpr ⟨m_astore _ _,
  List.forall_mem_cons.mpr ⟨m_const _ _,
  List.forall_mem_cons.mpr ⟨m_iret,
  List.forall_mem_cons.mpr ⟨m_const _ _,
  List.forall_mem_cons.mpr ⟨m_iret,
  fun q hq => absurd hq List.not_mem_nil⟩⟩⟩⟩⟩⟩⟩⟩⟩⟩⟩⟩
theorem hc_L_forget : ∀ E h, hdl [("java/lang/IllegalArgumentException", 12)] E = some h → ∃ pre x suf, tableOf [(0, 9, 12, 19)] = pre ++ x :: suf ∧ x.handlerPc = h ∧ covers x 4 = true ∧ x.catchType ≠ 0 ∧ Cond.classLink "TrialConverterLaw" x.catchType E ∈ TW ∧ Cond.castable E E ∈ TN ∧ ∀ z ∈ pre, z.catchType ≠ 0 ∧ ∃ nm', Cond.classLink "TrialConverterLaw" z.catchType nm' ∈ TW ∧ (E, nm') ∈ ncG := by
  intro E h he
  rw [hdl] at he
  by_cases e0 : "java/lang/IllegalArgumentException" = E
  · subst e0
    rw [if_pos rfl] at he
    cases he
    exact ⟨[], ⟨0, 9, 12, 19⟩, [], rfl, rfl, by decide, by decide, w3_119, tn3 129 rfl rfl, fun z hz => absurd hz List.not_mem_nil⟩
  rw [if_neg e0] at he
  cases he
set_option maxRecDepth 20000 in
theorem ok_L_forget : OkM yL_forget cL_forget 4 (some .int) (tableOf [(0, 9, 12, 19)]) tb_L_forget nmwG := by
  intro p l e R s m args below meth c Z D cy base c0 z0 d ks cl Q X S0 C Cy0 hcl hr hn hX
  exact List.forall_mem_cons.mpr ⟨ok_aload_n (pc := 0) (k := 2) C hX (by decide +kernel) rfl,
  List.forall_mem_cons.mpr ⟨ok_iconst (pc := 1) (n := 0) C hX (by decide +kernel) (by decide),
  List.forall_mem_cons.mpr ⟨ok_aload_n (pc := 2) (k := 0) C hX (by decide +kernel) rfl,
  List.forall_mem_cons.mpr ⟨ok_iload_n (pc := 3) (k := 1) C hX (by decide +kernel) rfl,
  List.forall_mem_cons.mpr ⟨ok_callvH (pc := 4) (y := n_X8_forget) (n := 2) (t := 10) (index := 74) C hX Cy0 hcl ny_X8_forget rfl w5_62 w5_59 w5_60 w5_61 w1_1 (by decide +kernel) (by decide) (by decide +kernel) hc_L_forget,
  List.forall_mem_cons.mpr ⟨ok_i2l (pc := 7) C hX (by decide +kernel),
  List.forall_mem_cons.mpr ⟨ok_jast (pc := 8) C hX (by decide +kernel),
  List.forall_mem_cons.mpr ⟨ok_goto (pc := 9) (off := 6) C hX (by decide +kernel) (by decide),
  List.forall_mem_cons.mpr ⟨ok_astore_n (pc := 12) (k := 3) C hX (by decide +kernel) rfl,
  List.forall_mem_cons.mpr ⟨ok_iconst (pc := 13) (n := 1) C hX (by decide +kernel) (by decide),
  List.forall_mem_cons.mpr ⟨ok_iret (pc := 14) C hX Cy0 hr (by decide +kernel),
  List.forall_mem_cons.mpr ⟨ok_iconst (pc := 15) (n := 0) C hX (by decide +kernel) (by decide),
  List.forall_mem_cons.mpr ⟨ok_iret (pc := 16) C hX Cy0 hr (by decide +kernel),
  fun q hq => absurd hq List.not_mem_nil⟩⟩⟩⟩⟩⟩⟩⟩⟩⟩⟩⟩⟩
theorem mn_L_forget : MonoT tb_L_forget := List.forall_mem_cons.mpr ⟨m_aload _ _,
  List.forall_mem_cons.mpr ⟨m_const _ _,
  List.forall_mem_cons.mpr ⟨m_aload _ _,
  List.forall_mem_cons.mpr ⟨m_iload _ _,
  List.forall_mem_cons.mpr ⟨m_callvH _ _ _ _ _,
  List.forall_mem_cons.mpr ⟨m_i2l _,
  List.forall_mem_cons.mpr ⟨m_jast _,
  List.forall_mem_cons.mpr ⟨m_goto _,
  List.forall_mem_cons.mpr ⟨m_astore _ _,
  List.forall_mem_cons.mpr ⟨m_const _ _,
  List.forall_mem_cons.mpr ⟨m_iret,
  List.forall_mem_cons.mpr ⟨m_const _ _,
  List.forall_mem_cons.mpr ⟨m_iret,
  fun q hq => absurd hq List.not_mem_nil⟩⟩⟩⟩⟩⟩⟩⟩⟩⟩⟩⟩⟩
theorem hc_L_missingAt : ∀ E h, hdl [("java/util/NoSuchElementException", 12)] E = some h → ∃ pre x suf, tableOf [(0, 9, 12, 72)] = pre ++ x :: suf ∧ x.handlerPc = h ∧ covers x 4 = true ∧ x.catchType ≠ 0 ∧ Cond.classLink "TrialConverterLaw" x.catchType E ∈ TW ∧ Cond.castable E E ∈ TN ∧ ∀ z ∈ pre, z.catchType ≠ 0 ∧ ∃ nm', Cond.classLink "TrialConverterLaw" z.catchType nm' ∈ TW ∧ (E, nm') ∈ ncG := by
  intro E h he
  rw [hdl] at he
  by_cases e0 : "java/util/NoSuchElementException" = E
  · subst e0
    rw [if_pos rfl] at he
    cases he
    exact ⟨[], ⟨0, 9, 12, 72⟩, [], rfl, rfl, by decide, by decide, w5_31, tn5 38 rfl rfl, fun z hz => absurd hz List.not_mem_nil⟩
  rw [if_neg e0] at he
  cases he
set_option maxRecDepth 20000 in
theorem ok_L_missingAt : OkM yL_missingAt cL_missingAt 4 (some .int) (tableOf [(0, 9, 12, 72)]) tb_L_missingAt nmwG := by
  intro p l e R s m args below meth c Z D cy base c0 z0 d ks cl Q X S0 C Cy0 hcl hr hn hX
  exact List.forall_mem_cons.mpr ⟨ok_aload_n (pc := 0) (k := 2) C hX (by decide +kernel) rfl,
  List.forall_mem_cons.mpr ⟨ok_iconst (pc := 1) (n := 0) C hX (by decide +kernel) (by decide),
  List.forall_mem_cons.mpr ⟨ok_aload_n (pc := 2) (k := 0) C hX (by decide +kernel) rfl,
  List.forall_mem_cons.mpr ⟨ok_iload_n (pc := 3) (k := 1) C hX (by decide +kernel) rfl,
  List.forall_mem_cons.mpr ⟨ok_callvH (pc := 4) (y := n_X8_missingAt) (n := 2) (t := 10) (index := 77) C hX Cy0 hcl ny_X8_missingAt rfl w5_73 w5_70 w5_71 w5_72 w1_1 (by decide +kernel) (by decide) (by decide +kernel) hc_L_missingAt,
  List.forall_mem_cons.mpr ⟨ok_i2l (pc := 7) C hX (by decide +kernel),
  List.forall_mem_cons.mpr ⟨ok_jast (pc := 8) C hX (by decide +kernel),
  List.forall_mem_cons.mpr ⟨ok_goto (pc := 9) (off := 6) C hX (by decide +kernel) (by decide),
  List.forall_mem_cons.mpr ⟨ok_astore_n (pc := 12) (k := 3) C hX (by decide +kernel) rfl,
  List.forall_mem_cons.mpr ⟨ok_iconst (pc := 13) (n := 1) C hX (by decide +kernel) (by decide),
  List.forall_mem_cons.mpr ⟨ok_iret (pc := 14) C hX Cy0 hr (by decide +kernel),
  List.forall_mem_cons.mpr ⟨ok_iconst (pc := 15) (n := 0) C hX (by decide +kernel) (by decide),
  List.forall_mem_cons.mpr ⟨ok_iret (pc := 16) C hX Cy0 hr (by decide +kernel),
  fun q hq => absurd hq List.not_mem_nil⟩⟩⟩⟩⟩⟩⟩⟩⟩⟩⟩⟩⟩
theorem mn_L_missingAt : MonoT tb_L_missingAt := List.forall_mem_cons.mpr ⟨m_aload _ _,
  List.forall_mem_cons.mpr ⟨m_const _ _,
  List.forall_mem_cons.mpr ⟨m_aload _ _,
  List.forall_mem_cons.mpr ⟨m_iload _ _,
  List.forall_mem_cons.mpr ⟨m_callvH _ _ _ _ _,
  List.forall_mem_cons.mpr ⟨m_i2l _,
  List.forall_mem_cons.mpr ⟨m_jast _,
  List.forall_mem_cons.mpr ⟨m_goto _,
  List.forall_mem_cons.mpr ⟨m_astore _ _,
  List.forall_mem_cons.mpr ⟨m_const _ _,
  List.forall_mem_cons.mpr ⟨m_iret,
  List.forall_mem_cons.mpr ⟨m_const _ _,
  List.forall_mem_cons.mpr ⟨m_iret,
  fun q hq => absurd hq List.not_mem_nil⟩⟩⟩⟩⟩⟩⟩⟩⟩⟩⟩⟩⟩
theorem hc_L_absorbs : ∀ E h, hdl [("java/lang/IndexOutOfBoundsException", 13)] E = some h → ∃ pre x suf, tableOf [(0, 10, 13, 28)] = pre ++ x :: suf ∧ x.handlerPc = h ∧ covers x 5 = true ∧ x.catchType ≠ 0 ∧ Cond.classLink "TrialConverterLaw" x.catchType E ∈ TW ∧ Cond.castable E E ∈ TN ∧ ∀ z ∈ pre, z.catchType ≠ 0 ∧ ∃ nm', Cond.classLink "TrialConverterLaw" z.catchType nm' ∈ TW ∧ (E, nm') ∈ ncG := by
  intro E h he
  rw [hdl] at he
  by_cases e0 : "java/lang/IndexOutOfBoundsException" = E
  · subst e0
    rw [if_pos rfl] at he
    cases he
    exact ⟨[], ⟨0, 10, 13, 28⟩, [], rfl, rfl, by decide, by decide, w4_87, tn4 94 rfl rfl, fun z hz => absurd hz List.not_mem_nil⟩
  rw [if_neg e0] at he
  cases he
set_option maxRecDepth 20000 in
theorem ok_L_absorbs : OkM yL_absorbs cL_absorbs 5 (some .int) (tableOf [(0, 10, 13, 28)]) tb_L_absorbs nmwG := by
  intro p l e R s m args below meth c Z D cy base c0 z0 d ks cl Q X S0 C Cy0 hcl hr hn hX
  exact List.forall_mem_cons.mpr ⟨ok_aload_n (pc := 0) (k := 3) C hX (by decide +kernel) rfl,
  List.forall_mem_cons.mpr ⟨ok_iconst (pc := 1) (n := 0) C hX (by decide +kernel) (by decide),
  List.forall_mem_cons.mpr ⟨ok_aload_n (pc := 2) (k := 0) C hX (by decide +kernel) rfl,
  List.forall_mem_cons.mpr ⟨ok_iload_n (pc := 3) (k := 1) C hX (by decide +kernel) rfl,
  List.forall_mem_cons.mpr ⟨ok_iload_n (pc := 4) (k := 2) C hX (by decide +kernel) rfl,
  List.forall_mem_cons.mpr ⟨ok_callvH (pc := 5) (y := n_X8_absorbs) (n := 3) (t := 10) (index := 80) C hX Cy0 hcl ny_X8_absorbs rfl w5_85 w5_82 w5_83 w5_84 w1_1 (by decide +kernel) (by decide) (by decide +kernel) hc_L_absorbs,
  List.forall_mem_cons.mpr ⟨ok_i2l (pc := 8) C hX (by decide +kernel),
  List.forall_mem_cons.mpr ⟨ok_jast (pc := 9) C hX (by decide +kernel),
  List.forall_mem_cons.mpr ⟨ok_goto (pc := 10) (off := 7) C hX (by decide +kernel) (by decide),
  List.forall_mem_cons.mpr ⟨ok_astore (pc := 13) (k := 4) C hX (by decide +kernel),
  List.forall_mem_cons.mpr ⟨ok_iconst (pc := 15) (n := 1) C hX (by decide +kernel) (by decide),
  List.forall_mem_cons.mpr ⟨ok_iret (pc := 16) C hX Cy0 hr (by decide +kernel),
  List.forall_mem_cons.mpr ⟨ok_iconst (pc := 17) (n := 0) C hX (by decide +kernel) (by decide),
  List.forall_mem_cons.mpr ⟨ok_iret (pc := 18) C hX Cy0 hr (by decide +kernel),
  fun q hq => absurd hq List.not_mem_nil⟩⟩⟩⟩⟩⟩⟩⟩⟩⟩⟩⟩⟩⟩
theorem mn_L_absorbs : MonoT tb_L_absorbs := List.forall_mem_cons.mpr ⟨m_aload _ _,
  List.forall_mem_cons.mpr ⟨m_const _ _,
  List.forall_mem_cons.mpr ⟨m_aload _ _,
  List.forall_mem_cons.mpr ⟨m_iload _ _,
  List.forall_mem_cons.mpr ⟨m_iload _ _,
  List.forall_mem_cons.mpr ⟨m_callvH _ _ _ _ _,
  List.forall_mem_cons.mpr ⟨m_i2l _,
  List.forall_mem_cons.mpr ⟨m_jast _,
  List.forall_mem_cons.mpr ⟨m_goto _,
  List.forall_mem_cons.mpr ⟨m_astore _ _,
  List.forall_mem_cons.mpr ⟨m_const _ _,
  List.forall_mem_cons.mpr ⟨m_iret,
  List.forall_mem_cons.mpr ⟨m_const _ _,
  List.forall_mem_cons.mpr ⟨m_iret,
  fun q hq => absurd hq List.not_mem_nil⟩⟩⟩⟩⟩⟩⟩⟩⟩⟩⟩⟩⟩⟩
theorem hc_L_inputFor : ∀ E h, hdl [("java/util/NoSuchElementException", 12)] E = some h → ∃ pre x suf, tableOf [(0, 9, 12, 72)] = pre ++ x :: suf ∧ x.handlerPc = h ∧ covers x 4 = true ∧ x.catchType ≠ 0 ∧ Cond.classLink "TrialConverterLaw" x.catchType E ∈ TW ∧ Cond.castable E E ∈ TN ∧ ∀ z ∈ pre, z.catchType ≠ 0 ∧ ∃ nm', Cond.classLink "TrialConverterLaw" z.catchType nm' ∈ TW ∧ (E, nm') ∈ ncG := by
  intro E h he
  rw [hdl] at he
  by_cases e0 : "java/util/NoSuchElementException" = E
  · subst e0
    rw [if_pos rfl] at he
    cases he
    exact ⟨[], ⟨0, 9, 12, 72⟩, [], rfl, rfl, by decide, by decide, w5_31, tn5 38 rfl rfl, fun z hz => absurd hz List.not_mem_nil⟩
  rw [if_neg e0] at he
  cases he
set_option maxRecDepth 20000 in
theorem ok_L_inputFor : OkM yL_inputFor cL_inputFor 4 (some .int) (tableOf [(0, 9, 12, 72)]) tb_L_inputFor nmwG := by
  intro p l e R s m args below meth c Z D cy base c0 z0 d ks cl Q X S0 C Cy0 hcl hr hn hX
  exact List.forall_mem_cons.mpr ⟨ok_aload_n (pc := 0) (k := 2) C hX (by decide +kernel) rfl,
  List.forall_mem_cons.mpr ⟨ok_iconst (pc := 1) (n := 0) C hX (by decide +kernel) (by decide),
  List.forall_mem_cons.mpr ⟨ok_aload_n (pc := 2) (k := 0) C hX (by decide +kernel) rfl,
  List.forall_mem_cons.mpr ⟨ok_iload_n (pc := 3) (k := 1) C hX (by decide +kernel) rfl,
  List.forall_mem_cons.mpr ⟨ok_callvH (pc := 4) (y := n_X8_inputFor) (n := 2) (t := 10) (index := 84) C hX Cy0 hcl ny_X8_inputFor rfl w5_99 w5_96 w5_97 w5_98 w1_1 (by decide +kernel) (by decide) (by decide +kernel) hc_L_inputFor,
  List.forall_mem_cons.mpr ⟨ok_i2l (pc := 7) C hX (by decide +kernel),
  List.forall_mem_cons.mpr ⟨ok_jast (pc := 8) C hX (by decide +kernel),
  List.forall_mem_cons.mpr ⟨ok_goto (pc := 9) (off := 6) C hX (by decide +kernel) (by decide),
  List.forall_mem_cons.mpr ⟨ok_astore_n (pc := 12) (k := 3) C hX (by decide +kernel) rfl,
  List.forall_mem_cons.mpr ⟨ok_iconst (pc := 13) (n := 1) C hX (by decide +kernel) (by decide),
  List.forall_mem_cons.mpr ⟨ok_iret (pc := 14) C hX Cy0 hr (by decide +kernel),
  List.forall_mem_cons.mpr ⟨ok_iconst (pc := 15) (n := 0) C hX (by decide +kernel) (by decide),
  List.forall_mem_cons.mpr ⟨ok_iret (pc := 16) C hX Cy0 hr (by decide +kernel),
  fun q hq => absurd hq List.not_mem_nil⟩⟩⟩⟩⟩⟩⟩⟩⟩⟩⟩⟩⟩
theorem mn_L_inputFor : MonoT tb_L_inputFor := List.forall_mem_cons.mpr ⟨m_aload _ _,
  List.forall_mem_cons.mpr ⟨m_const _ _,
  List.forall_mem_cons.mpr ⟨m_aload _ _,
  List.forall_mem_cons.mpr ⟨m_iload _ _,
  List.forall_mem_cons.mpr ⟨m_callvH _ _ _ _ _,
  List.forall_mem_cons.mpr ⟨m_i2l _,
  List.forall_mem_cons.mpr ⟨m_jast _,
  List.forall_mem_cons.mpr ⟨m_goto _,
  List.forall_mem_cons.mpr ⟨m_astore _ _,
  List.forall_mem_cons.mpr ⟨m_const _ _,
  List.forall_mem_cons.mpr ⟨m_iret,
  List.forall_mem_cons.mpr ⟨m_const _ _,
  List.forall_mem_cons.mpr ⟨m_iret,
  fun q hq => absurd hq List.not_mem_nil⟩⟩⟩⟩⟩⟩⟩⟩⟩⟩⟩⟩⟩
theorem hc_L_writeConversion : ∀ E h, hdl [("java/lang/IndexOutOfBoundsException", 12)] E = some h → ∃ pre x suf, tableOf [(0, 9, 12, 28)] = pre ++ x :: suf ∧ x.handlerPc = h ∧ covers x 4 = true ∧ x.catchType ≠ 0 ∧ Cond.classLink "TrialConverterLaw" x.catchType E ∈ TW ∧ Cond.castable E E ∈ TN ∧ ∀ z ∈ pre, z.catchType ≠ 0 ∧ ∃ nm', Cond.classLink "TrialConverterLaw" z.catchType nm' ∈ TW ∧ (E, nm') ∈ ncG := by
  intro E h he
  rw [hdl] at he
  by_cases e0 : "java/lang/IndexOutOfBoundsException" = E
  · subst e0
    rw [if_pos rfl] at he
    cases he
    exact ⟨[], ⟨0, 9, 12, 28⟩, [], rfl, rfl, by decide, by decide, w4_87, tn4 94 rfl rfl, fun z hz => absurd hz List.not_mem_nil⟩
  rw [if_neg e0] at he
  cases he
set_option maxRecDepth 20000 in
theorem ok_L_writeConversion : OkM yL_writeConversion cL_writeConversion 4 (some .int) (tableOf [(0, 9, 12, 28)]) tb_L_writeConversion nmwG := by
  intro p l e R s m args below meth c Z D cy base c0 z0 d ks cl Q X S0 C Cy0 hcl hr hn hX
  exact List.forall_mem_cons.mpr ⟨ok_aload_n (pc := 0) (k := 2) C hX (by decide +kernel) rfl,
  List.forall_mem_cons.mpr ⟨ok_iconst (pc := 1) (n := 0) C hX (by decide +kernel) (by decide),
  List.forall_mem_cons.mpr ⟨ok_aload_n (pc := 2) (k := 0) C hX (by decide +kernel) rfl,
  List.forall_mem_cons.mpr ⟨ok_iload_n (pc := 3) (k := 1) C hX (by decide +kernel) rfl,
  List.forall_mem_cons.mpr ⟨ok_callvH (pc := 4) (y := n_X8_writeConversion) (n := 2) (t := 10) (index := 87) C hX Cy0 hcl ny_X8_writeConversion rfl w5_111 w5_108 w5_109 w5_110 w1_1 (by decide +kernel) (by decide) (by decide +kernel) hc_L_writeConversion,
  List.forall_mem_cons.mpr ⟨ok_i2l (pc := 7) C hX (by decide +kernel),
  List.forall_mem_cons.mpr ⟨ok_jast (pc := 8) C hX (by decide +kernel),
  List.forall_mem_cons.mpr ⟨ok_goto (pc := 9) (off := 6) C hX (by decide +kernel) (by decide),
  List.forall_mem_cons.mpr ⟨ok_astore_n (pc := 12) (k := 3) C hX (by decide +kernel) rfl,
  List.forall_mem_cons.mpr ⟨ok_iconst (pc := 13) (n := 1) C hX (by decide +kernel) (by decide),
  List.forall_mem_cons.mpr ⟨ok_iret (pc := 14) C hX Cy0 hr (by decide +kernel),
  List.forall_mem_cons.mpr ⟨ok_iconst (pc := 15) (n := 0) C hX (by decide +kernel) (by decide),
  List.forall_mem_cons.mpr ⟨ok_iret (pc := 16) C hX Cy0 hr (by decide +kernel),
  fun q hq => absurd hq List.not_mem_nil⟩⟩⟩⟩⟩⟩⟩⟩⟩⟩⟩⟩⟩
theorem mn_L_writeConversion : MonoT tb_L_writeConversion := List.forall_mem_cons.mpr ⟨m_aload _ _,
  List.forall_mem_cons.mpr ⟨m_const _ _,
  List.forall_mem_cons.mpr ⟨m_aload _ _,
  List.forall_mem_cons.mpr ⟨m_iload _ _,
  List.forall_mem_cons.mpr ⟨m_callvH _ _ _ _ _,
  List.forall_mem_cons.mpr ⟨m_i2l _,
  List.forall_mem_cons.mpr ⟨m_jast _,
  List.forall_mem_cons.mpr ⟨m_goto _,
  List.forall_mem_cons.mpr ⟨m_astore _ _,
  List.forall_mem_cons.mpr ⟨m_const _ _,
  List.forall_mem_cons.mpr ⟨m_iret,
  List.forall_mem_cons.mpr ⟨m_const _ _,
  List.forall_mem_cons.mpr ⟨m_iret,
  fun q hq => absurd hq List.not_mem_nil⟩⟩⟩⟩⟩⟩⟩⟩⟩⟩⟩⟩⟩
theorem hc_L_writtenByte : ∀ E h, hdl [("java/lang/IndexOutOfBoundsException", 12)] E = some h → ∃ pre x suf, tableOf [(0, 9, 12, 28)] = pre ++ x :: suf ∧ x.handlerPc = h ∧ covers x 4 = true ∧ x.catchType ≠ 0 ∧ Cond.classLink "TrialConverterLaw" x.catchType E ∈ TW ∧ Cond.castable E E ∈ TN ∧ ∀ z ∈ pre, z.catchType ≠ 0 ∧ ∃ nm', Cond.classLink "TrialConverterLaw" z.catchType nm' ∈ TW ∧ (E, nm') ∈ ncG := by
  intro E h he
  rw [hdl] at he
  by_cases e0 : "java/lang/IndexOutOfBoundsException" = E
  · subst e0
    rw [if_pos rfl] at he
    cases he
    exact ⟨[], ⟨0, 9, 12, 28⟩, [], rfl, rfl, by decide, by decide, w4_87, tn4 94 rfl rfl, fun z hz => absurd hz List.not_mem_nil⟩
  rw [if_neg e0] at he
  cases he
set_option maxRecDepth 20000 in
theorem ok_L_writtenByte : OkM yL_writtenByte cL_writtenByte 4 (some .int) (tableOf [(0, 9, 12, 28)]) tb_L_writtenByte nmwG := by
  intro p l e R s m args below meth c Z D cy base c0 z0 d ks cl Q X S0 C Cy0 hcl hr hn hX
  exact List.forall_mem_cons.mpr ⟨ok_aload_n (pc := 0) (k := 2) C hX (by decide +kernel) rfl,
  List.forall_mem_cons.mpr ⟨ok_iconst (pc := 1) (n := 0) C hX (by decide +kernel) (by decide),
  List.forall_mem_cons.mpr ⟨ok_aload_n (pc := 2) (k := 0) C hX (by decide +kernel) rfl,
  List.forall_mem_cons.mpr ⟨ok_iload_n (pc := 3) (k := 1) C hX (by decide +kernel) rfl,
  List.forall_mem_cons.mpr ⟨ok_callvH (pc := 4) (y := n_X8_writtenByte) (n := 2) (t := 10) (index := 90) C hX Cy0 hcl ny_X8_writtenByte rfl w6_136 w6_133 w6_134 w6_135 w1_1 (by decide +kernel) (by decide) (by decide +kernel) hc_L_writtenByte,
  List.forall_mem_cons.mpr ⟨ok_i2l (pc := 7) C hX (by decide +kernel),
  List.forall_mem_cons.mpr ⟨ok_jast (pc := 8) C hX (by decide +kernel),
  List.forall_mem_cons.mpr ⟨ok_goto (pc := 9) (off := 6) C hX (by decide +kernel) (by decide),
  List.forall_mem_cons.mpr ⟨ok_astore_n (pc := 12) (k := 3) C hX (by decide +kernel) rfl,
  List.forall_mem_cons.mpr ⟨ok_iconst (pc := 13) (n := 1) C hX (by decide +kernel) (by decide),
  List.forall_mem_cons.mpr ⟨ok_iret (pc := 14) C hX Cy0 hr (by decide +kernel),
  List.forall_mem_cons.mpr ⟨ok_iconst (pc := 15) (n := 0) C hX (by decide +kernel) (by decide),
  List.forall_mem_cons.mpr ⟨ok_iret (pc := 16) C hX Cy0 hr (by decide +kernel),
  fun q hq => absurd hq List.not_mem_nil⟩⟩⟩⟩⟩⟩⟩⟩⟩⟩⟩⟩⟩
theorem mn_L_writtenByte : MonoT tb_L_writtenByte := List.forall_mem_cons.mpr ⟨m_aload _ _,
  List.forall_mem_cons.mpr ⟨m_const _ _,
  List.forall_mem_cons.mpr ⟨m_aload _ _,
  List.forall_mem_cons.mpr ⟨m_iload _ _,
  List.forall_mem_cons.mpr ⟨m_callvH _ _ _ _ _,
  List.forall_mem_cons.mpr ⟨m_i2l _,
  List.forall_mem_cons.mpr ⟨m_jast _,
  List.forall_mem_cons.mpr ⟨m_goto _,
  List.forall_mem_cons.mpr ⟨m_astore _ _,
  List.forall_mem_cons.mpr ⟨m_const _ _,
  List.forall_mem_cons.mpr ⟨m_iret,
  List.forall_mem_cons.mpr ⟨m_const _ _,
  List.forall_mem_cons.mpr ⟨m_iret,
  fun q hq => absurd hq List.not_mem_nil⟩⟩⟩⟩⟩⟩⟩⟩⟩⟩⟩⟩⟩
theorem hc_L_undo : ∀ E h, hdl [("java/lang/IllegalStateException", 11)] E = some h → ∃ pre x suf, tableOf [(0, 8, 11, 13)] = pre ++ x :: suf ∧ x.handlerPc = h ∧ covers x 3 = true ∧ x.catchType ≠ 0 ∧ Cond.classLink "TrialConverterLaw" x.catchType E ∈ TW ∧ Cond.castable E E ∈ TN ∧ ∀ z ∈ pre, z.catchType ≠ 0 ∧ ∃ nm', Cond.classLink "TrialConverterLaw" z.catchType nm' ∈ TW ∧ (E, nm') ∈ ncG := by
  intro E h he
  rw [hdl] at he
  by_cases e0 : "java/lang/IllegalStateException" = E
  · subst e0
    rw [if_pos rfl] at he
    cases he
    exact ⟨[], ⟨0, 8, 11, 13⟩, [], rfl, rfl, by decide, by decide, w3_37, tn3 44 rfl rfl, fun z hz => absurd hz List.not_mem_nil⟩
  rw [if_neg e0] at he
  cases he
set_option maxRecDepth 20000 in
theorem ok_L_undo : OkM yL_undo cL_undo 3 (some .int) (tableOf [(0, 8, 11, 13)]) tb_L_undo nmwG := by
  intro p l e R s m args below meth c Z D cy base c0 z0 d ks cl Q X S0 C Cy0 hcl hr hn hX
  exact List.forall_mem_cons.mpr ⟨ok_aload_n (pc := 0) (k := 1) C hX (by decide +kernel) rfl,
  List.forall_mem_cons.mpr ⟨ok_iconst (pc := 1) (n := 0) C hX (by decide +kernel) (by decide),
  List.forall_mem_cons.mpr ⟨ok_aload_n (pc := 2) (k := 0) C hX (by decide +kernel) rfl,
  List.forall_mem_cons.mpr ⟨ok_callvH (pc := 3) (y := n_X8_undo) (n := 1) (t := 10) (index := 93) C hX Cy0 hcl ny_X8_undo rfl w6_154 w6_151 w6_152 w6_153 w1_1 (by decide +kernel) (by decide) (by decide +kernel) hc_L_undo,
  List.forall_mem_cons.mpr ⟨ok_i2l (pc := 6) C hX (by decide +kernel),
  List.forall_mem_cons.mpr ⟨ok_jast (pc := 7) C hX (by decide +kernel),
  List.forall_mem_cons.mpr ⟨ok_goto (pc := 8) (off := 6) C hX (by decide +kernel) (by decide),
  List.forall_mem_cons.mpr ⟨ok_astore_n (pc := 11) (k := 2) C hX (by decide +kernel) rfl,
  List.forall_mem_cons.mpr ⟨ok_iconst (pc := 12) (n := 1) C hX (by decide +kernel) (by decide),
  List.forall_mem_cons.mpr ⟨ok_iret (pc := 13) C hX Cy0 hr (by decide +kernel),
  List.forall_mem_cons.mpr ⟨ok_iconst (pc := 14) (n := 0) C hX (by decide +kernel) (by decide),
  List.forall_mem_cons.mpr ⟨ok_iret (pc := 15) C hX Cy0 hr (by decide +kernel),
  fun q hq => absurd hq List.not_mem_nil⟩⟩⟩⟩⟩⟩⟩⟩⟩⟩⟩⟩
theorem mn_L_undo : MonoT tb_L_undo := List.forall_mem_cons.mpr ⟨m_aload _ _,
  List.forall_mem_cons.mpr ⟨m_const _ _,
  List.forall_mem_cons.mpr ⟨m_aload _ _,
  List.forall_mem_cons.mpr ⟨m_callvH _ _ _ _ _,
  List.forall_mem_cons.mpr ⟨m_i2l _,
  List.forall_mem_cons.mpr ⟨m_jast _,
  List.forall_mem_cons.mpr ⟨m_goto _,
  List.forall_mem_cons.mpr ⟨m_astore _ _,
  List.forall_mem_cons.mpr ⟨m_const _ _,
  List.forall_mem_cons.mpr ⟨m_iret,
  List.forall_mem_cons.mpr ⟨m_const _ _,
  List.forall_mem_cons.mpr ⟨m_iret,
  fun q hq => absurd hq List.not_mem_nil⟩⟩⟩⟩⟩⟩⟩⟩⟩⟩⟩⟩
theorem hc_L_save : ∀ E h, hdl [("java/lang/IndexOutOfBoundsException", 12)] E = some h → ∃ pre x suf, tableOf [(0, 9, 12, 28)] = pre ++ x :: suf ∧ x.handlerPc = h ∧ covers x 4 = true ∧ x.catchType ≠ 0 ∧ Cond.classLink "TrialConverterLaw" x.catchType E ∈ TW ∧ Cond.castable E E ∈ TN ∧ ∀ z ∈ pre, z.catchType ≠ 0 ∧ ∃ nm', Cond.classLink "TrialConverterLaw" z.catchType nm' ∈ TW ∧ (E, nm') ∈ ncG := by
  intro E h he
  rw [hdl] at he
  by_cases e0 : "java/lang/IndexOutOfBoundsException" = E
  · subst e0
    rw [if_pos rfl] at he
    cases he
    exact ⟨[], ⟨0, 9, 12, 28⟩, [], rfl, rfl, by decide, by decide, w4_87, tn4 94 rfl rfl, fun z hz => absurd hz List.not_mem_nil⟩
  rw [if_neg e0] at he
  cases he
set_option maxRecDepth 20000 in
theorem ok_L_save : OkM yL_save cL_save 4 (some .int) (tableOf [(0, 9, 12, 28)]) tb_L_save nmwG := by
  intro p l e R s m args below meth c Z D cy base c0 z0 d ks cl Q X S0 C Cy0 hcl hr hn hX
  exact List.forall_mem_cons.mpr ⟨ok_aload_n (pc := 0) (k := 2) C hX (by decide +kernel) rfl,
  List.forall_mem_cons.mpr ⟨ok_iconst (pc := 1) (n := 0) C hX (by decide +kernel) (by decide),
  List.forall_mem_cons.mpr ⟨ok_aload_n (pc := 2) (k := 0) C hX (by decide +kernel) rfl,
  List.forall_mem_cons.mpr ⟨ok_iload_n (pc := 3) (k := 1) C hX (by decide +kernel) rfl,
  List.forall_mem_cons.mpr ⟨ok_callvH (pc := 4) (y := n_X8_save) (n := 2) (t := 10) (index := 96) C hX Cy0 hcl ny_X8_save rfl w6_167 w6_164 w6_165 w6_166 w1_1 (by decide +kernel) (by decide) (by decide +kernel) hc_L_save,
  List.forall_mem_cons.mpr ⟨ok_i2l (pc := 7) C hX (by decide +kernel),
  List.forall_mem_cons.mpr ⟨ok_jast (pc := 8) C hX (by decide +kernel),
  List.forall_mem_cons.mpr ⟨ok_goto (pc := 9) (off := 6) C hX (by decide +kernel) (by decide),
  List.forall_mem_cons.mpr ⟨ok_astore_n (pc := 12) (k := 3) C hX (by decide +kernel) rfl,
  List.forall_mem_cons.mpr ⟨ok_iconst (pc := 13) (n := 1) C hX (by decide +kernel) (by decide),
  List.forall_mem_cons.mpr ⟨ok_iret (pc := 14) C hX Cy0 hr (by decide +kernel),
  List.forall_mem_cons.mpr ⟨ok_iconst (pc := 15) (n := 0) C hX (by decide +kernel) (by decide),
  List.forall_mem_cons.mpr ⟨ok_iret (pc := 16) C hX Cy0 hr (by decide +kernel),
  fun q hq => absurd hq List.not_mem_nil⟩⟩⟩⟩⟩⟩⟩⟩⟩⟩⟩⟩⟩
theorem mn_L_save : MonoT tb_L_save := List.forall_mem_cons.mpr ⟨m_aload _ _,
  List.forall_mem_cons.mpr ⟨m_const _ _,
  List.forall_mem_cons.mpr ⟨m_aload _ _,
  List.forall_mem_cons.mpr ⟨m_iload _ _,
  List.forall_mem_cons.mpr ⟨m_callvH _ _ _ _ _,
  List.forall_mem_cons.mpr ⟨m_i2l _,
  List.forall_mem_cons.mpr ⟨m_jast _,
  List.forall_mem_cons.mpr ⟨m_goto _,
  List.forall_mem_cons.mpr ⟨m_astore _ _,
  List.forall_mem_cons.mpr ⟨m_const _ _,
  List.forall_mem_cons.mpr ⟨m_iret,
  List.forall_mem_cons.mpr ⟨m_const _ _,
  List.forall_mem_cons.mpr ⟨m_iret,
  fun q hq => absurd hq List.not_mem_nil⟩⟩⟩⟩⟩⟩⟩⟩⟩⟩⟩⟩⟩
theorem hc_L_restore : ∀ E h, hdl [("java/lang/IndexOutOfBoundsException", 12), ("java/lang/IllegalStateException", 15)] E = some h → ∃ pre x suf, tableOf [(0, 9, 12, 28), (0, 9, 15, 13)] = pre ++ x :: suf ∧ x.handlerPc = h ∧ covers x 4 = true ∧ x.catchType ≠ 0 ∧ Cond.classLink "TrialConverterLaw" x.catchType E ∈ TW ∧ Cond.castable E E ∈ TN ∧ ∀ z ∈ pre, z.catchType ≠ 0 ∧ ∃ nm', Cond.classLink "TrialConverterLaw" z.catchType nm' ∈ TW ∧ (E, nm') ∈ ncG := by
  intro E h he
  rw [hdl] at he
  by_cases e0 : "java/lang/IndexOutOfBoundsException" = E
  · subst e0
    rw [if_pos rfl] at he
    cases he
    exact ⟨[], ⟨0, 9, 12, 28⟩, [⟨0, 9, 15, 13⟩], rfl, rfl, by decide, by decide, w4_87, tn4 94 rfl rfl, fun z hz => absurd hz List.not_mem_nil⟩
  rw [if_neg e0] at he
  rw [hdl] at he
  by_cases e1 : "java/lang/IllegalStateException" = E
  · subst e1
    rw [if_pos rfl] at he
    cases he
    exact ⟨[⟨0, 9, 12, 28⟩], ⟨0, 9, 15, 13⟩, [], rfl, rfl, by decide, by decide, w3_37, tn3 44 rfl rfl, List.forall_mem_cons.mpr ⟨⟨by decide, "java/lang/IndexOutOfBoundsException", w4_87, by decide⟩, fun z hz => absurd hz List.not_mem_nil⟩⟩
  rw [if_neg e1] at he
  cases he
set_option maxRecDepth 20000 in
theorem ok_L_restore : OkM yL_restore cL_restore 4 (some .int) (tableOf [(0, 9, 12, 28), (0, 9, 15, 13)]) tb_L_restore nmwG := by
  intro p l e R s m args below meth c Z D cy base c0 z0 d ks cl Q X S0 C Cy0 hcl hr hn hX
  exact List.forall_mem_cons.mpr ⟨ok_aload_n (pc := 0) (k := 2) C hX (by decide +kernel) rfl,
  List.forall_mem_cons.mpr ⟨ok_iconst (pc := 1) (n := 0) C hX (by decide +kernel) (by decide),
  List.forall_mem_cons.mpr ⟨ok_aload_n (pc := 2) (k := 0) C hX (by decide +kernel) rfl,
  List.forall_mem_cons.mpr ⟨ok_iload_n (pc := 3) (k := 1) C hX (by decide +kernel) rfl,
  List.forall_mem_cons.mpr ⟨ok_callvH (pc := 4) (y := n_X8_restore) (n := 2) (t := 10) (index := 99) C hX Cy0 hcl ny_X8_restore rfl w6_184 w6_181 w6_182 w6_183 w1_1 (by decide +kernel) (by decide) (by decide +kernel) hc_L_restore,
  List.forall_mem_cons.mpr ⟨ok_i2l (pc := 7) C hX (by decide +kernel),
  List.forall_mem_cons.mpr ⟨ok_jast (pc := 8) C hX (by decide +kernel),
  List.forall_mem_cons.mpr ⟨ok_goto (pc := 9) (off := 9) C hX (by decide +kernel) (by decide),
  List.forall_mem_cons.mpr ⟨ok_astore_n (pc := 12) (k := 3) C hX (by decide +kernel) rfl,
  List.forall_mem_cons.mpr ⟨ok_iconst (pc := 13) (n := 1) C hX (by decide +kernel) (by decide),
  List.forall_mem_cons.mpr ⟨ok_iret (pc := 14) C hX Cy0 hr (by decide +kernel),
  List.forall_mem_cons.mpr ⟨ok_astore_n (pc := 15) (k := 3) C hX (by decide +kernel) rfl,
  List.forall_mem_cons.mpr ⟨ok_iconst (pc := 16) (n := 2) C hX (by decide +kernel) (by decide),
  List.forall_mem_cons.mpr ⟨ok_iret (pc := 17) C hX Cy0 hr (by decide +kernel),
  List.forall_mem_cons.mpr ⟨ok_iconst (pc := 18) (n := 0) C hX (by decide +kernel) (by decide),
  List.forall_mem_cons.mpr ⟨ok_iret (pc := 19) C hX Cy0 hr (by decide +kernel),
  fun q hq => absurd hq List.not_mem_nil⟩⟩⟩⟩⟩⟩⟩⟩⟩⟩⟩⟩⟩⟩⟩⟩
theorem mn_L_restore : MonoT tb_L_restore := List.forall_mem_cons.mpr ⟨m_aload _ _,
  List.forall_mem_cons.mpr ⟨m_const _ _,
  List.forall_mem_cons.mpr ⟨m_aload _ _,
  List.forall_mem_cons.mpr ⟨m_iload _ _,
  List.forall_mem_cons.mpr ⟨m_callvH _ _ _ _ _,
  List.forall_mem_cons.mpr ⟨m_i2l _,
  List.forall_mem_cons.mpr ⟨m_jast _,
  List.forall_mem_cons.mpr ⟨m_goto _,
  List.forall_mem_cons.mpr ⟨m_astore _ _,
  List.forall_mem_cons.mpr ⟨m_const _ _,
  List.forall_mem_cons.mpr ⟨m_iret,
  List.forall_mem_cons.mpr ⟨m_astore _ _,
  List.forall_mem_cons.mpr ⟨m_const _ _,
  List.forall_mem_cons.mpr ⟨m_iret,
  List.forall_mem_cons.mpr ⟨m_const _ _,
  List.forall_mem_cons.mpr ⟨m_iret,
  fun q hq => absurd hq List.not_mem_nil⟩⟩⟩⟩⟩⟩⟩⟩⟩⟩⟩⟩⟩⟩⟩⟩
