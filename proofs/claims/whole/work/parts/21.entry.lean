/-! WHAT HOLDS AT THE LAW's ENTRY -/
section ENT
variable {s : State} {args : Array Value}
theorem en_sel {y : MethodName} (hy : y.cls ≠ "java/lang/invoke/MethodHandle" ∧ y.cls ≠ "java/lang/invoke/VarHandle") {C : String} {n : Nat} (hins : (Cond.instantiable C n).before args s = true) (hpr : (Cond.privateMethod y).before args s = true) (hin : (Cond.instanceMethod y).before args s = true) {y0 : MethodName} (h0 : y0.cls = y.cls) (hs0 : (Cond.selects C y0 y0).before args s = true) : (Cond.selects C y y).before args s = true := by
  obtain ⟨c, k, hc, hk, -, hni, -, -⟩ := Cond.instantiable_spec hins
  have hni' : k.isInterface = false := (Bool.or_eq_false_iff.mp hni).1
  obtain ⟨mk, mM, hn, hm, -, -⟩ := Cond.instanceMethod_spec hin
  have hf : s.methodFound? y.cls y.name y.desc = some mk := State.methodFound?_of_named hn hy
  have hs : selectMethod {} s.vm c mk = .method mk := selectMethod_private hm (Cond.privateMethod_at hpr mk mM hn hm)
  obtain ⟨k2, hk2, -⟩ := className_of_methodNamed hn
  have hi2 : k2.isInterface = false := by
    obtain ⟨-, -, m0, -, -, q3, -, mk0, q4, q5⟩ := Cond.selects_spec hs0
    have z1 := findClass_of_methodNamed q3
    have z2 := findClass_of_methodNamed hn
    rw [h0] at z1
    rw [Option.some.inj (z1.symm.trans z2), hk2] at q4
    rw [Option.some.inj q4]
    exact q5
  simp only [Cond.before, Cond.holds, Cond.value, hc, hf, hn, hs, hk, hk2]
  simp
  exact hi2
theorem en_TW (hts : ∀ w ∈ lw_tbl, w.before args s = true) : ∀ w ∈ TW, w.before args s = true := by
  intro w hw
  rcases List.mem_append.mp hw with h | h
  · have h1 : ∀ w ∈ exW, w.before args s = true := List.forall_mem_cons.mpr ⟨en_sel (args := args) (s := s) (y := yJ5_ensureCapacityInternal_d00df) (C := RJ4) (n := 4) (by decide +kernel) (hts _ (tb1_sub _ (List.mem_of_getElem? (i := 70) rfl))) (hts _ (tb5_sub _ (List.mem_of_getElem? (i := 139) rfl))) (hts _ (tb5_sub _ (List.mem_of_getElem? (i := 140) rfl))) (y0 := yJ5_isLatin1_aae02) rfl (hts _ (tb5_sub _ (List.mem_of_getElem? (i := 166) rfl))), List.forall_mem_cons.mpr ⟨en_sel (args := args) (s := s) (y := yJ5_newCapacity_0f7a4) (C := RJ4) (n := 4) (by decide +kernel) (hts _ (tb1_sub _ (List.mem_of_getElem? (i := 70) rfl))) (hts _ (tb5_sub _ (List.mem_of_getElem? (i := 143) rfl))) (hts _ (tb5_sub _ (List.mem_of_getElem? (i := 144) rfl))) (y0 := yJ5_isLatin1_aae02) rfl (hts _ (tb5_sub _ (List.mem_of_getElem? (i := 166) rfl))), fun q hq => absurd hq List.not_mem_nil⟩⟩
    exact h1 w h
  · exact hts w (List.mem_filter.mp h).1
theorem en_arr {t : FieldType} (h : (Cond.arrayClass t).before args s = true) (hn : ∀ C, t ≠ .object C) : ∃ c, ArrOfT s c t ∧ va_RA s c t := by
  obtain ⟨c, k, comp, h1, h2, h3⟩ := Cond.arrayClass_spec h
  refine ⟨c, fun n z => ⟨fun k => by simp [arrV], k, h2, comp, h3⟩, ?_⟩
  cases t with
  | object C => exact (hn C rfl).elim
  | _ => exact h1
theorem en_arq {C : String} (h : (Cond.arrayOver (.object C)).before args s = true) : ∃ c, ArrOfT s c (.object C) ∧ va_RA s c (.object C) := by
  obtain ⟨comp, c, k, h1, -, h3, h4, h5⟩ := Cond.arrayOver_spec h
  exact ⟨c, fun n z => ⟨fun k => by simp [arrV], k, h3, comp, h4⟩, k, comp, h3, h4, h1, h5⟩
theorem en_cls (hts : ∀ w ∈ lw_tbl, w.before args s = true) : ∀ c : Nat, ∃ q : ClassId × (Nat → Nat), ∀ r, kCl[c]? = some r → u_Kn s r.1 r.2.1 r.2.2 q.1 q.2 := by
  have hT := en_TW hts
  intro c
  match c with
  | 0 =>
    obtain ⟨cC, iS, h⟩ := u_known hT inWJ0 (n := 4) (hts _ (tb6_sub _ (List.mem_of_getElem? (i := 8) rfl)))
    exact ⟨(cC, iS), fun r hr => by cases hr; exact h⟩
  | 1 =>
    obtain ⟨cC, iS, h⟩ := u_known hT inWJ4 (n := 4) (hts _ (tb1_sub _ (List.mem_of_getElem? (i := 70) rfl)))
    exact ⟨(cC, iS), fun r hr => by cases hr; exact h⟩
  | 2 =>
    obtain ⟨cC, iS, h⟩ := u_known hT inWX0 (n := 3) (hts _ (tb2_sub _ (List.mem_of_getElem? (i := 27) rfl)))
    exact ⟨(cC, iS), fun r hr => by cases hr; exact h⟩
  | 3 =>
    obtain ⟨cC, iS, h⟩ := u_known hT inWX1 (n := 6) (hts _ (tb1_sub _ (List.mem_of_getElem? (i := 179) rfl)))
    exact ⟨(cC, iS), fun r hr => by cases hr; exact h⟩
  | 4 =>
    obtain ⟨cC, iS, h⟩ := u_known hT inWX2 (n := 6) (hts _ (tb1_sub _ (List.mem_of_getElem? (i := 41) rfl)))
    exact ⟨(cC, iS), fun r hr => by cases hr; exact h⟩
  | 5 =>
    obtain ⟨cC, iS, h⟩ := u_known hT inWX3 (n := 7) (hts _ (tb3_sub _ (List.mem_of_getElem? (i := 144) rfl)))
    exact ⟨(cC, iS), fun r hr => by cases hr; exact h⟩
  | 6 =>
    obtain ⟨cC, iS, h⟩ := u_known hT inWX4 (n := 3) (hts _ (tb1_sub _ (List.mem_of_getElem? (i := 209) rfl)))
    exact ⟨(cC, iS), fun r hr => by cases hr; exact h⟩
  | 7 =>
    obtain ⟨cC, iS, h⟩ := u_known hT inWX5 (n := 8) (hts _ (tb1_sub _ (List.mem_of_getElem? (i := 120) rfl)))
    exact ⟨(cC, iS), fun r hr => by cases hr; exact h⟩
  | 8 =>
    obtain ⟨cC, iS, h⟩ := u_known hT inWX6 (n := 3) (hts _ (tb1_sub _ (List.mem_of_getElem? (i := 103) rfl)))
    exact ⟨(cC, iS), fun r hr => by cases hr; exact h⟩
  | 9 =>
    obtain ⟨cC, iS, h⟩ := u_known hT inWX7 (n := 6) (hts _ (tb1_sub _ (List.mem_of_getElem? (i := 173) rfl)))
    exact ⟨(cC, iS), fun r hr => by cases hr; exact h⟩
  | 10 =>
    obtain ⟨cC, iS, h⟩ := u_known hT inWX8 (n := 10) (hts _ (tb1_sub _ (List.mem_of_getElem? (i := 33) rfl)))
    exact ⟨(cC, iS), fun r hr => by cases hr; exact h⟩
  | 11 =>
    obtain ⟨cC, iS, h⟩ := u_known hT inWX9 (n := 29) (hts _ (tb6_sub _ (List.mem_of_getElem? (i := 191) rfl)))
    exact ⟨(cC, iS), fun r hr => by cases hr; exact h⟩
  | n + 12 => exact ⟨(default, fun _ => 0), fun r hr => by simp at hr⟩
theorem en_K (hts : ∀ w ∈ lw_tbl, w.before args s = true) : ∃ (D : va_G) (cy : Nat → ClassId), va_K D kCl (tyL cy) s := by
  have hc := en_cls hts
  obtain ⟨a0, h0⟩ := en_arq (s := s) (args := args) (hts _ (tb2_sub _ (List.mem_of_getElem? (i := 33) rfl)))
  obtain ⟨a1, h1⟩ := en_arr (s := s) (args := args) (t := .long) (hts _ (tb8_sub _ (List.mem_of_getElem? (i := 143) rfl))) (fun C h => by cases h)
  obtain ⟨a2, h2⟩ := en_arr (s := s) (args := args) (t := .double) (hts _ (tb8_sub _ (List.mem_of_getElem? (i := 144) rfl))) (fun C h => by cases h)
  obtain ⟨a3, h3⟩ := en_arr (s := s) (args := args) (t := .byte) (hts _ (tb1_sub _ (List.mem_of_getElem? (i := 101) rfl))) (fun C h => by cases h)
  obtain ⟨a4, h4⟩ := en_arr (s := s) (args := args) (t := .boolean) (hts _ (tb7_sub _ (List.mem_of_getElem? (i := 49) rfl))) (fun C h => by cases h)
  obtain ⟨a5, h5⟩ := en_arr (s := s) (args := args) (t := .int) (hts _ (tb1_sub _ (List.mem_of_getElem? (i := 68) rfl))) (fun C h => by cases h)
  refine ⟨(fun c => (Classical.choose (hc c)).1, fun c => (Classical.choose (hc c)).2), fun k => match k with | 0 => a0 | 1 => a1 | 2 => a2 | 3 => a3 | 4 => a4 | _ => a5, fun c q hq => Classical.choose_spec (hc c) q hq, ?_⟩
  intro k q hk
  match k, hk with
  | 0, hk => cases hk; exact h0
  | 1, hk => cases hk; exact h1
  | 2, hk => cases hk; exact h2
  | 3, hk => cases hk; exact h3
  | 4, hk => cases hk; exact h4
  | 5, hk => cases hk; exact h5
  | n + 6, hk => simp at hk
theorem en_N (hts : ∀ w ∈ lw_tbl, w.before args s = true) : ∀ w ∈ TN, va_Nw w s := by
  intro w hw
  obtain ⟨h1, h2⟩ := List.mem_filter.mp hw
  have h3 := hts w h1
  unfold isN at h2
  split at h2
  · exact va_Nw.of rfl h3
  · exact va_Nw.of rfl h3
  · exact va_Nw.of rfl h3
  · exact h3
  · cases h2
end ENT
