/-! RETURNS, THROWS AND CALLS as instructions -/
/-- what a method's own frame has beside Cx -/
def Cy (l : Launch) (R : Room) (s : State) (args : Array Value) (below : List Frame) (meth : Method) (c : Code) (Z : State → Prop) (ks : Nat → Nat) (D : va_G) (cy : Nat → ClassId) (base c0 z0 d : Nat) (Q : QP) (S0 : M9) (xt : List ExceptionTableEntry) : Prop :=
  Cz l R s args below meth Z ks D cy base c0 z0 d Q S0 ∧ c.exceptionTable.toList = xt
/-- every method that cl speaks of keeps its contract at depth d -/
def Snd (l : Launch) (ks : Nat → Nat) (D : va_G) (cy : Nat → ClassId) (base : Nat) (nmw : Nat → MethodName × List Cond) (d : Nat) (cl : CP) : Prop :=
  ∀ (y : Nat) (As : List Value) (S : M9) (Q : QP), gC S ≤ cCM → gZ S ≤ cSM → cl y As S Q → MOK l ks D cy base (nmw y).1 (nmw y).2 d As S Q
section OKC
variable {p : Program} {l : Launch} {e : Env} {R : Room} {s : State} {m : MethodId} {args : Array Value} {below : List Frame} {meth : Method} {c : Code} {Z : State → Prop} {D : va_G} {cy : Nat → ClassId} {base c0 z0 nL : Nat} {cc : ByteArray} {own : String} {ks : Nat → Nat} {cl : CP} {Q : QP} {X : KP} {pc d : Nat} {S0 : M9} {xt : List ExceptionTableEntry}
theorem ok_iret (C : Cx p l R s m args c D cy base c0 z0 nL cc own) (hX : ∀ pc ls st S, X pc ls st S → Mc p l e R s m args below meth c Z D cy base c0 z0 nL pc ls st S) (Cy0 : Cy l R s args below meth c Z ks D cy base c0 z0 d Q S0 xt) (hr : meth.sig.returnType = some .int) (d9 : decode cc pc = .ok (.ireturn, 1)) : Ok p l e R s m args below meth c Z D cy base c0 z0 nL ks cl Q X pc o_iret := by
  intro ls st S h H locs arr hH hl
  obtain ⟨⟨rfl, rfl, ⟨-, -, -, hlocks, -⟩, rfl⟩, -⟩ := id Cy0
  unfold o_iret at h
  split at h
  · exact ret_end hH.1 hH.2.1 hH.2.2.1 hH.2.2.2.1 hH.2.2.2.2.1 hH.2.2.2.2.2.1 hH.2.2.2.2.2.2 h (W.iret C.1 C.2.1 hr (fun t ht _ => ⟨rfl, ht⟩) hH.2.2.1.2.2 d9 hlocks)
  · exact h.elim
theorem ok_fret (C : Cx p l R s m args c D cy base c0 z0 nL cc own) (hX : ∀ pc ls st S, X pc ls st S → Mc p l e R s m args below meth c Z D cy base c0 z0 nL pc ls st S) (Cy0 : Cy l R s args below meth c Z ks D cy base c0 z0 d Q S0 xt) (hr : meth.sig.returnType = some .float) (d9 : decode cc pc = .ok (.freturn, 1)) : Ok p l e R s m args below meth c Z D cy base c0 z0 nL ks cl Q X pc o_fret := by
  intro ls st S h H locs arr hH hl
  obtain ⟨⟨rfl, rfl, ⟨-, -, -, hlocks, -⟩, rfl⟩, -⟩ := id Cy0
  unfold o_fret at h
  split at h
  · exact ret_end hH.1 hH.2.1 hH.2.2.1 hH.2.2.2.1 hH.2.2.2.2.1 hH.2.2.2.2.2.1 hH.2.2.2.2.2.2 h (W.fret C.1 C.2.1 hr (fun t ht _ => ⟨rfl, ht⟩) hH.2.2.1.2.2 d9 hlocks)
  · exact h.elim
theorem ok_dret (C : Cx p l R s m args c D cy base c0 z0 nL cc own) (hX : ∀ pc ls st S, X pc ls st S → Mc p l e R s m args below meth c Z D cy base c0 z0 nL pc ls st S) (Cy0 : Cy l R s args below meth c Z ks D cy base c0 z0 d Q S0 xt) (hr : meth.sig.returnType = some .double) (d9 : decode cc pc = .ok (.dreturn, 1)) : Ok p l e R s m args below meth c Z D cy base c0 z0 nL ks cl Q X pc o_dret := by
  intro ls st S h H locs arr hH hl
  obtain ⟨⟨rfl, rfl, ⟨-, -, -, hlocks, -⟩, rfl⟩, -⟩ := id Cy0
  unfold o_dret at h
  split at h
  · exact ret_end hH.1 hH.2.1 hH.2.2.1 hH.2.2.2.1 hH.2.2.2.2.1 hH.2.2.2.2.2.1 hH.2.2.2.2.2.2 h (W.dret C.1 C.2.1 hr (fun t ht _ => ⟨rfl, ht⟩) hH.2.2.1.2.2 d9 hlocks)
  · exact h.elim
theorem ok_zret (C : Cx p l R s m args c D cy base c0 z0 nL cc own) (hX : ∀ pc ls st S, X pc ls st S → Mc p l e R s m args below meth c Z D cy base c0 z0 nL pc ls st S) (Cy0 : Cy l R s args below meth c Z ks D cy base c0 z0 d Q S0 xt) {ty : FieldType} (hr : meth.sig.returnType = some ty) (d9 : decode cc pc = .ok (.ireturn, 1)) : Ok p l e R s m args below meth c Z D cy base c0 z0 nL ks cl Q X pc (o_zret ty) := by
  intro ls st S h H locs arr hH hl
  obtain ⟨⟨rfl, rfl, ⟨-, -, -, hlocks, -⟩, rfl⟩, -⟩ := id Cy0
  unfold o_zret at h
  split at h
  · exact ret_end hH.1 hH.2.1 hH.2.2.1 hH.2.2.2.1 hH.2.2.2.2.1 hH.2.2.2.2.2.1 hH.2.2.2.2.2.2 h.2 (W.zret C.1 C.2.1 hr h.1 (fun t ht _ => ⟨rfl, ht⟩) hH.2.2.1.2.2 d9 hlocks)
  · exact h.elim
theorem ok_vret (C : Cx p l R s m args c D cy base c0 z0 nL cc own) (hX : ∀ pc ls st S, X pc ls st S → Mc p l e R s m args below meth c Z D cy base c0 z0 nL pc ls st S) (Cy0 : Cy l R s args below meth c Z ks D cy base c0 z0 d Q S0 xt) (hr : meth.sig.returnType = none) (d9 : decode cc pc = .ok (.return_, 1)) : Ok p l e R s m args below meth c Z D cy base c0 z0 nL ks cl Q X pc o_vret := by
  intro ls st S h H locs arr hH hl
  obtain ⟨⟨rfl, rfl, ⟨-, -, -, hlocks, -⟩, rfl⟩, -⟩ := id Cy0
  unfold o_vret at h
  split at h
  · exact ret_end hH.1 hH.2.1 hH.2.2.1 hH.2.2.2.1 hH.2.2.2.2.1 hH.2.2.2.2.2.1 hH.2.2.2.2.2.2 h (W.vret C.1 C.2.1 hr (fun t ht _ => ⟨rfl, ht⟩) hH.2.2.1.2.2 d9 hlocks)
  · exact h.elim
theorem ok_aret (C : Cx p l R s m args c D cy base c0 z0 nL cc own) (hX : ∀ pc ls st S, X pc ls st S → Mc p l e R s m args below meth c Z D cy base c0 z0 nL pc ls st S) (Cy0 : Cy l R s args below meth c Z ks D cy base c0 z0 d Q S0 xt) {rt : FieldType} (hr : meth.sig.returnType = some rt) (hrt : (∃ n, rt = .object n) ∨ ∃ t, rt = .array t) (d9 : decode cc pc = .ok (.areturn, 1)) : Ok p l e R s m args below meth c Z D cy base c0 z0 nL ks cl Q X pc o_aret := by
  intro ls st S h H locs arr hH hl
  obtain ⟨⟨rfl, rfl, ⟨-, -, -, hlocks, -⟩, rfl⟩, -⟩ := id Cy0
  unfold o_aret at h
  split at h
  · exact ret_end hH.1 hH.2.1 hH.2.2.1 hH.2.2.2.1 hH.2.2.2.2.1 hH.2.2.2.2.2.1 hH.2.2.2.2.2.2 h (W.aret C.1 C.2.1 hr hrt (Or.inr ⟨_, rfl⟩) (fun t ht _ => ⟨rfl, ht⟩) hH.2.2.1.2.2 d9 hlocks)
  · exact h.elim
theorem hu_of (C : Cx p l R s m args c D cy base c0 z0 nL cc own) (hog : OG ks (kA base) s s.heap) {S : M9} {H : Heap} {locs : List Loc} (hH : Hd s D cy base c0 z0 H locs S) {U : State} (hU : U.heap = H) (hW : s.WarmedH U.vm) : HU ks D cy base S U := by
  obtain ⟨hP, hD, hS, -⟩ := hH
  refine ⟨by rw [hU]; exact hP, hD, va_K.moved hW.alike C.2.2.2.2.2.1, by rw [hU]; exact Nat.le_trans C.2.2.2.2.2.2.1 hS.1, ?_⟩
  rw [hU]
  exact hog.to hW fun a h1 h2 => hS.2.1 a h1 h2
theorem stk {st : List Value} {n : Nat} {v : Value} {r : List Value} (h : (st.take n).reverse = v :: r) : st = r.reverse ++ v :: st.drop n := by
  have h1 : st.take n = r.reverse ++ [v] := by rw [← List.reverse_reverse (st.take n), h]; simp
  calc st = st.take n ++ st.drop n := (List.take_append_drop _ _).symm
    _ = r.reverse ++ v :: st.drop n := by rw [h1]; simp
theorem ok_callv (C : Cx p l R s m args c D cy base c0 z0 nL cc own) (hX : ∀ pc ls st S, X pc ls st S → Mc p l e R s m args below meth c Z D cy base c0 z0 nL pc ls st S) (Cy0 : Cy l R s args below meth c Z ks D cy base c0 z0 (d + 1) Q S0 []) {nmw : Nat → MethodName × List Cond} (hcl : Snd l ks D cy base nmw d cl) {y n t index maxL N : Nat} {nm : MethodName} {bytes : ByteArray} {ret : Option FieldType} {T : u_T} (hy : nmw y = (nm, Cond.code nm bytes maxL ret :: TW)) (hc : kCl[t]? = some (nm.cls, T, N)) (hw0 : Cond.code nm bytes maxL ret ∈ TW) (hw1 : Cond.methodLink own index nm ∈ TW) (hw2 : Cond.instanceMethod nm ∈ TW) (hw3 : Cond.selects nm.cls nm nm ∈ TW) (hw4 : Cond.initialized nm.cls ∈ TW)
    (hd : nm.cls ≠ "java/lang/invoke/MethodHandle" ∧ nm.cls ≠ "java/lang/invoke/VarHandle" ∧ (parseMethodDescriptor nm.desc).map (fun d => d.parameters.length + 1) = some n) (hmL : maxL ≤ 100) (d9 : decode cc pc = .ok (.invokevirtual index, 3)) : Ok p l e R s m args below meth c Z D cy base c0 z0 nL ks cl Q X pc (o_callv y n t (pc + 3)) := by
  intro ls st S h H locs arr hH hl
  obtain ⟨⟨rfl, rfl, ⟨hR1, hR2, -, hlocks, hog⟩, rfl⟩, hex⟩ := id Cy0
  obtain ⟨hcat, ⟨b, r, hst, hn, hb, hbk⟩, h⟩ := h
  obtain ⟨e1, e2, e3, e4⟩ := hH.2.2.2
  have hm := hcl y _ S _ e3 e4 h
  rw [hst] at hm
  unfold MOK at hm
  rw [hy] at hm
  have ht : t < 12 := (List.getElem?_eq_some_iff.mp hc).1
  obtain ⟨k0, hk0⟩ := pool_get (cy := cy) hb
  rw [cell_obj hbk ht] at hk0
  have hT : GoodIn TW (wsV own index nm.cls nm (Cond.code nm bytes maxL ret :: TW)) := goodTW (by
    intro w hw
    simp only [wsV, List.cons_append, List.nil_append, List.mem_cons] at hw
    rcases hw with rfl | rfl | rfl | rfl | rfl | hw
    · exact hw1
    · exact hw2
    · exact hw3
    · exact hw4
    · exact hw0
    · exact hw)
  have hpl : (parseMethodDescriptor nm.desc).map (fun d => d.parameters.length) = some r.length := by
    have := hd.2.2
    cases hq : parseMethodDescriptor nm.desc with
    | none => rw [hq] at this; cases this
    | some q => rw [hq] at this; simp at this ⊢; omega
  have hrun := vx_runV (p := p) (e := e) (R := R) (s := s) (m := m) (args := args) (below := below) (meth := meth) (c := c) (H := H) (locs := locs) (cells := gC S - gC S0) (slots := gZ S - gZ S0) (As := r) (b := b) (C := nm.cls) (rest := st.drop n) (n := r.length) (Ts := TW) (own := own) (g := F0 m pc arr st) (cc := cc) (nL := nL) (index := index) (bytes := bytes) (maxL := maxL) (ret := ret)
    ⟨C.1, C.2.1, C.2.2.1, C.2.2.2.1, C.2.2.2.2.1⟩ hm (cwV r.length C.2.2.2.2.1 hT rfl rfl rfl ⟨rfl, hd.1, hd.2.1, hpl⟩ ⟨by show 10 * (d + 1) + 1 ≤ _; omega, by show 8 + (maxL + 11) + 200 * (d + 1) ≤ _; omega⟩)
    ⟨pcD_blind, va_recv C.2.2.2.2.2.1 hH.1 hc hk0, fun U hU hW => ⟨rfl, hu_of C hog hH hU hW⟩⟩ rfl rfl (by show arr.size = nL; exact hl.1) (stk hst) (lv_room hcat) d9 ⟨by rw [C.2.2.2.2.2.2.2.1]; omega, by rw [C.2.2.2.2.2.2.2.2.1]; omega⟩
  refine mc_call hrun hH.2.2.1 (fun E ce q9 S' H1 locs1 hq hP1 hD1 hS1 g1 g2 g3 g4 hce hcv hcl9 => ?_) (fun v S' H1 locs1 hq hP1 hD1 hS1 g1 g2 g3 g4 => ?_)
  · refine vx_widen (k := gC S' - gC S0) (n := gZ S' - gZ S0) (by omega) (by omega) ?_
    exact out_end (fun x hx => absurd hx (by rw [hex]; exact List.not_mem_nil)) hlocks hP1 hD1 hS1 (by omega) (by omega) g3 g4 hq hce hcv hcl9
  · refine W.cs (cells' := gC S' - gC S0) (slots' := gZ S' - gZ S0) (by omega) (by omega) ?_
    cases v with
    | none => exact hX _ _ _ _ hq H1 locs1 arr ⟨hP1, hD1, hS1, by omega, by omega, g3, g4⟩ hl
    | some v => exact hX _ _ _ _ hq H1 locs1 arr ⟨hP1, hD1, hS1, by omega, by omega, g3, g4⟩ hl
theorem ok_calls (C : Cx p l R s m args c D cy base c0 z0 nL cc own) (hX : ∀ pc ls st S, X pc ls st S → Mc p l e R s m args below meth c Z D cy base c0 z0 nL pc ls st S) (Cy0 : Cy l R s args below meth c Z ks D cy base c0 z0 (d + 1) Q S0 []) {nmw : Nat → MethodName × List Cond} (hcl : Snd l ks D cy base nmw d cl) {y n index maxL : Nat} {nm : MethodName} {bytes : ByteArray} {ret : Option FieldType} (hy : nmw y = (nm, Cond.code nm bytes maxL ret :: TW)) (hw0 : Cond.code nm bytes maxL ret ∈ TW) (hw1 : Cond.methodLink own index nm ∈ TW) (hw2 : Cond.static nm ∈ TW) (hw4 : Cond.initialized nm.cls ∈ TW)
    (hd : nm.cls ≠ "java/lang/invoke/MethodHandle" ∧ nm.cls ≠ "java/lang/invoke/VarHandle" ∧ (parseMethodDescriptor nm.desc).map (fun d => d.parameters.length) = some n) (hmL : maxL ≤ 100) (d9 : decode cc pc = .ok (.invokestatic index, 3)) : Ok p l e R s m args below meth c Z D cy base c0 z0 nL ks cl Q X pc (o_calls y n (pc + 3)) := by
  intro ls st S h H locs arr hH hl
  obtain ⟨⟨rfl, rfl, ⟨hR1, hR2, -, hlocks, hog⟩, rfl⟩, hex⟩ := id Cy0
  obtain ⟨hcat, hn, h⟩ := h
  obtain ⟨e1, e2, e3, e4⟩ := hH.2.2.2
  have hm := hcl y _ S _ e3 e4 h
  unfold MOK at hm
  rw [hy] at hm
  have hG : GoodIn TW (Cond.code nm bytes maxL ret :: TW) := goodTW (by
    intro w hw
    rcases List.mem_cons.mp hw with rfl | hw
    · exact hw0
    · exact hw)
  have hrun := vx_runS (p := p) (e := e) (R := R) (s := s) (m := m) (args := args) (below := below) (meth := meth) (c := c) (H := H) (locs := locs) (cells := gC S - gC S0) (slots := gZ S - gZ S0) (As := (st.take n).reverse) (rest := st.drop n) (n := n) (Ts := TW) (own := own) (g := F0 m pc arr st) (cc := cc) (nL := nL) (index := index) (bytes := bytes) (maxL := maxL) (ret := ret)
    ⟨C.1, C.2.1, C.2.2.1, C.2.2.2.1, C.2.2.2.2.1⟩ hm ⟨callB_of n C.2.2.2.2.1 hG rfl rfl rfl (C.2.2.2.2.1 _ hw4) (C.2.2.2.2.1 _ hw1) ⟨hd.1, hd.2.1, hd.2.2⟩ ⟨by show 10 * (d + 1) + 1 ≤ _; omega, by show 8 + (maxL + 11) + 200 * (d + 1) ≤ _; omega⟩, C.2.2.2.2.1 _ hw2⟩
    ⟨pcD_blind, fun U hU hW => ⟨rfl, hu_of C hog hH hU hW⟩⟩ rfl (by rw [List.length_reverse]; exact hn) (by show arr.size = nL; exact hl.1) (by show st = _; rw [List.reverse_reverse]; exact (List.take_append_drop _ _).symm) (lv_room hcat) d9 ⟨by rw [C.2.2.2.2.2.2.2.1]; omega, by rw [C.2.2.2.2.2.2.2.2.1]; omega⟩
  refine mc_call hrun hH.2.2.1 (fun E ce q9 S' H1 locs1 hq hP1 hD1 hS1 g1 g2 g3 g4 hce hcv hcl9 => ?_) (fun v S' H1 locs1 hq hP1 hD1 hS1 g1 g2 g3 g4 => ?_)
  · refine vx_widen (k := gC S' - gC S0) (n := gZ S' - gZ S0) (by omega) (by omega) ?_
    exact out_end (fun x hx => absurd hx (by rw [hex]; exact List.not_mem_nil)) hlocks hP1 hD1 hS1 (by omega) (by omega) g3 g4 hq hce hcv hcl9
  · refine W.cs (cells' := gC S' - gC S0) (slots' := gZ S' - gZ S0) (by omega) (by omega) ?_
    cases v with
    | none => exact hX _ _ _ _ hq H1 locs1 arr ⟨hP1, hD1, hS1, by omega, by omega, g3, g4⟩ hl
    | some v => exact hX _ _ _ _ hq H1 locs1 arr ⟨hP1, hD1, hS1, by omega, by omega, g3, g4⟩ hl
end OKC
