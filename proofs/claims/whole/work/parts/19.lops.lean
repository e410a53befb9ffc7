/-! THE LAW'S OWN INSTRUCTIONS: the script (an array older than all others), calls that must not throw, its end -/
def o_slen (b L nx : Nat) : Op := fun _ _ _ K ls st S => match st with
  | .ref a :: r => a = b ∧ K nx ls (.int (Int32.ofNat L) :: r) S
  | _ => False
def o_sld (b L : Nat) (xs : Nat → Int32) (nx : Nat) : Op := fun _ _ _ K ls st S => match st with
  | .int i :: .ref a :: r => a = b ∧ vp_in i L ∧ K nx ls (.int (xs i.toNatClampNeg) :: r) S
  | _ => False
/-- a static call that throws nothing -/
def o_callsN (y n nx : Nat) : Op := fun _ cl _ K ls st S => catS (st.drop n) ≤ 8 ∧ (st.take n).length = n ∧ cl y (st.take n).reverse S (behN K nx ls (st.drop n))
/-- the law's answer: true -/
def o_lret : Op := fun _ _ Q _ _ st S => match st with
  | [.int v] => v = 1 ∧ Q (.inl (some (.int v))) S
  | _ => False
section MONOL
theorem m_slen (b L nx : Nat) : MonoO (o_slen b L nx) := by
  intro ks cl hcl Q Q' K K' ls st S hQ hK h
  unfold o_slen at h
  split at h
  · exact ⟨h.1, hK _ _ _ _ h.2⟩
  · exact h.elim
theorem m_sld (b L : Nat) (xs : Nat → Int32) (nx : Nat) : MonoO (o_sld b L xs nx) := by
  intro ks cl hcl Q Q' K K' ls st S hQ hK h
  unfold o_sld at h
  split at h
  · exact ⟨h.1, h.2.1, hK _ _ _ _ h.2.2⟩
  · exact h.elim
theorem m_callsN (y n nx : Nat) : MonoO (o_callsN y n nx) := by
  intro ks cl hcl Q Q' K K' ls st S hQ hK h
  refine ⟨h.1, h.2.1, hcl y _ S _ _ (fun o S' hh => ?_) h.2.2⟩
  unfold behN at hh ⊢
  split at hh
  · exact hK _ _ _ _ hh
  · exact hK _ _ _ _ hh
  · exact hh.elim
theorem m_lret : MonoO o_lret := by
  intro ks cl hcl Q Q' K K' ls st S hQ hK h
  unfold o_lret at h ⊢
  split at h
  · exact ⟨h.1, hQ _ _ h.2⟩
  · exact h.elim
end MONOL
section OKC
variable {p : Program} {l : Launch} {e : Env} {R : Room} {s : State} {m : MethodId} {args : Array Value} {below : List Frame} {meth : Method} {c : Code} {Z : State → Prop} {D : va_G} {cy : Nat → ClassId} {base c0 z0 nL : Nat} {cc : ByteArray} {own : String} {ks : Nat → Nat} {cl : CP} {Q : QP} {X : KP} {pc d : Nat} {S0 : M9} {xt : List ExceptionTableEntry}
theorem ok_slen (C : Cx p l R s m args c D cy base c0 z0 nL cc own) (hX : ∀ pc ls st S, X pc ls st S → Mc p l e R s m args below meth c Z D cy base c0 z0 nL pc ls st S) {b L : Nat} {xs : Nat → Int32} (hx : va_X b L xs s s.heap) (hb : b < base) (d9 : decode cc pc = .ok (.arraylength, 1)) : Ok p l e R s m args below meth c Z D cy base c0 z0 nL ks cl Q X pc (o_slen b L (pc + 1)) := by
  intro ls st S h H locs arr hH hl
  unfold o_slen at h
  split at h
  · obtain ⟨rfl, h⟩ := h
    exact va_slen C.1 C.2.1 hx (Nat.lt_of_lt_of_le hb C.2.2.2.2.2.2.1) (Nat.not_le.mpr hb) hH.2.2.1 d9 (hX _ _ _ _ h H locs arr hH hl)
  · exact h.elim
theorem ok_sld (C : Cx p l R s m args c D cy base c0 z0 nL cc own) (hX : ∀ pc ls st S, X pc ls st S → Mc p l e R s m args below meth c Z D cy base c0 z0 nL pc ls st S) {b L : Nat} {xs : Nat → Int32} (hx : va_X b L xs s s.heap) (hb : b < base) (d9 : decode cc pc = .ok (.iaload, 1)) : Ok p l e R s m args below meth c Z D cy base c0 z0 nL ks cl Q X pc (o_sld b L xs (pc + 1)) := by
  intro ls st S h H locs arr hH hl
  unfold o_sld at h
  split at h
  · obtain ⟨rfl, hin, h⟩ := h
    exact va_sld C.1 C.2.1 hx (Nat.lt_of_lt_of_le hb C.2.2.2.2.2.2.1) (Nat.not_le.mpr hb) hH.2.2.1 hin d9 (hX _ _ _ _ h H locs arr hH hl)
  · exact h.elim
/-- a virtual call on an object of a class of ours that throws nothing -/
theorem ok_callvP (C : Cx p l R s m args c D cy base c0 z0 nL cc own) (hX : ∀ pc ls st S, X pc ls st S → Mc p l e R s m args below meth c Z D cy base c0 z0 nL pc ls st S) (Cv0 : Cv l R s meth ks base (d + 1)) {nmw : Nat → MethodName × List Cond} (hcl : Snd l ks D cy base nmw d cl) {y n t index maxL N : Nat} {nm : MethodName} {bytes : ByteArray} {ret : Option FieldType} {T : u_T} (hy : nmw y = (nm, Cond.code nm bytes maxL ret :: TW)) (hc : kCl[t]? = some (nm.cls, T, N)) (hw0 : Cond.code nm bytes maxL ret ∈ TW) (hw1 : Cond.methodLink own index nm ∈ TW) (hw2 : Cond.instanceMethod nm ∈ TW) (hw3 : Cond.selects nm.cls nm nm ∈ TW) (hw4 : Cond.initialized nm.cls ∈ TW)
    (hd : nm.cls ≠ "java/lang/invoke/MethodHandle" ∧ nm.cls ≠ "java/lang/invoke/VarHandle" ∧ (parseMethodDescriptor nm.desc).map (fun d => d.parameters.length + 1) = some n) (hmL : maxL ≤ 100) (d9 : decode cc pc = .ok (.invokevirtual index, 3)) : Ok p l e R s m args below meth c Z D cy base c0 z0 nL ks cl Q X pc (o_callvN y n t (pc + 3)) := by
  intro ls st S h H locs arr hH hl
  obtain ⟨hR1, hR2, -, hlocks, hog⟩ := id Cv0
  obtain ⟨hcat, ⟨b, r, hst, hn, hb, hbk⟩, h⟩ := h
  obtain ⟨e1, e2, e3, e4⟩ := hH.2.2.2
  have hm := hcl y _ S _ e3 e4 h
  rw [hst, hy] at hm
  have hm2 := mok_met (fun _ _ h => h) hm
  have ht : t < 12 := (List.getElem?_eq_some_iff.mp hc).1
  obtain ⟨k0, hk0⟩ := pool_get (cy := cy) hb
  rw [cell_obj hbk ht] at hk0
  have hT : GoodIn TW (wsV own index nm.cls nm (Cond.code nm bytes maxL ret :: TW)) := goodTW (by
    intro w hw
    simp only [wsV, List.cons_append, List.nil_append, List.mem_cons] at hw
    rcases hw with rfl | rfl | rfl | rfl | rfl | hw
    · exact hw1
    · exact hw2
    · exact hw3
    · exact hw4
    · exact hw0
    · exact hw)
  refine callN_end C hX (rest := st.drop n) (a := (Value.ref b :: r).toArray) hH hl ?_
  exact va_runV (As := r) (b := b) (C := nm.cls) (rest := st.drop n) (n := r.length) (Ts := TW) (own := own) (g := F0 m pc arr st) (cc := cc) (nL := nL) (index := index) (bytes := bytes) (maxL := maxL) (ret := ret)
    ⟨C.1, C.2.1, C.2.2.1, C.2.2.2.1, C.2.2.2.2.1⟩ hm2 (cwV r.length C.2.2.2.2.1 hT rfl rfl rfl ⟨rfl, hd.1, hd.2.1, par_of hd.2.2 hn⟩ ⟨by show 10 * (d + 1) + 1 ≤ _; omega, by show 8 + (maxL + 11) + 200 * (d + 1) ≤ _; omega⟩)
    ⟨pcD_blind, va_recv C.2.2.2.2.2.1 hH.1 hc hk0, fun U hU hW => ⟨rfl, hu_of C hog hH hU hW⟩⟩ rfl rfl (by show arr.size = nL; exact hl.1) (stk hst) (lv_room hcat) d9 ⟨by rw [C.2.2.2.2.2.2.2.1]; omega, by rw [C.2.2.2.2.2.2.2.2.1]; omega⟩
/-- a static call of a method with handlers that throws nothing -/
theorem ok_callsN (C : Cx p l R s m args c D cy base c0 z0 nL cc own) (hX : ∀ pc ls st S, X pc ls st S → Mc p l e R s m args below meth c Z D cy base c0 z0 nL pc ls st S) (Cv0 : Cv l R s meth ks base (d + 1)) {nmw : Nat → MethodName × List Cond} (hcl : Snd l ks D cy base nmw d cl) {y n index maxL : Nat} {nm : MethodName} {bytes : ByteArray} {ret : Option FieldType} {hh : List (Nat × Nat × Nat × Nat)} (hy : nmw y = (nm, Cond.codeWith nm bytes maxL ret hh :: TW)) (hw0 : Cond.codeWith nm bytes maxL ret hh ∈ TW) (hw1 : Cond.methodLink own index nm ∈ TW) (hw2 : Cond.static nm ∈ TW) (hw4 : Cond.initialized nm.cls ∈ TW)
    (hd : nm.cls ≠ "java/lang/invoke/MethodHandle" ∧ nm.cls ≠ "java/lang/invoke/VarHandle" ∧ (parseMethodDescriptor nm.desc).map (fun d => d.parameters.length) = some n) (hmL : maxL ≤ 100) (d9 : decode cc pc = .ok (.invokestatic index, 3)) : Ok p l e R s m args below meth c Z D cy base c0 z0 nL ks cl Q X pc (o_callsN y n (pc + 3)) := by
  intro ls st S h H locs arr hH hl
  obtain ⟨hR1, hR2, -, hlocks, hog⟩ := id Cv0
  obtain ⟨hcat, hn, h⟩ := h
  obtain ⟨e1, e2, e3, e4⟩ := hH.2.2.2
  have hm := hcl y _ S _ e3 e4 h
  rw [hy] at hm
  have hm2 := mok_met (fun _ _ h => h) hm
  have hT : GoodIn TW (va_wsS own index nm (Cond.codeWith nm bytes maxL ret hh :: TW)) := goodTW (by
    intro w hw
    simp only [va_wsS, List.cons_append, List.nil_append, List.mem_cons] at hw
    rcases hw with rfl | rfl | rfl | rfl | hw
    · exact hw1
    · exact hw2
    · exact hw4
    · exact hw0
    · exact hw)
  refine callN_end C hX (rest := st.drop n) (a := (st.take n).reverse.toArray) hH hl ?_
  exact vx_runSW (As := (st.take n).reverse) (rest := st.drop n) (n := n) (Ts := TW) (own := own) (g := F0 m pc arr st) (cc := cc) (nL := nL) (index := index) (bytes := bytes) (maxL := maxL) (ret := ret)
    ⟨C.1, C.2.1, C.2.2.1, C.2.2.2.1, C.2.2.2.2.1⟩ hm2 (vx_cwSW n C.2.2.2.2.1 hT rfl rfl rfl hd ⟨by show 10 * (d + 1) + 1 ≤ _; omega, by show 8 + (maxL + 11) + 200 * (d + 1) ≤ _; omega⟩)
    ⟨pcD_blind, fun U hU hW => ⟨rfl, hu_of C hog hH hU hW⟩⟩ rfl (by rw [List.length_reverse]; exact hn) (by show arr.size = nL; exact hl.1) (by show st = _; rw [List.reverse_reverse]; exact (List.take_append_drop _ _).symm) (lv_room hcat) d9 ⟨by rw [C.2.2.2.2.2.2.2.1]; omega, by rw [C.2.2.2.2.2.2.2.2.1]; omega⟩
end OKC
