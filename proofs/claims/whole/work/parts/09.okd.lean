/-! THE REST OF THE INSTRUCTIONS -/
section OKC
variable {p : Program} {l : Launch} {e : Env} {R : Room} {s : State} {m : MethodId} {args : Array Value} {below : List Frame} {meth : Method} {c : Code} {Z : State → Prop} {D : va_G} {cy : Nat → ClassId} {base c0 z0 nL : Nat} {cc : ByteArray} {own : String} {ks : Nat → Nat} {cl : CP} {Q : QP} {X : KP} {pc d : Nat} {S0 : M9} {xt : List ExceptionTableEntry}
theorem ok_objinit (C : Cx p l R s m args c D cy base c0 z0 nL cc own) (hX : ∀ pc ls st S, X pc ls st S → Mc p l e R s m args below meth c Z D cy base c0 z0 nL pc ls st S) (Cv0 : Cv l R s meth ks base d) {index : Nat} (hw1 : Cond.methodLink own index Lib.objectInit ∈ TW) (hw2 : Cond.instanceMethod Lib.objectInit ∈ TW) (hw3 : Cond.code Lib.objectInit ⟨#[0xb1]⟩ 1 none ∈ TW) (d9 : decode cc pc = .ok (.invokespecial index, 3)) : Ok p l e R s m args below meth c Z D cy base c0 z0 nL ks cl Q X pc (o_objinit (pc + 3)) := by
  intro ls st S h H locs arr hH hl
  obtain ⟨hR1, hR2, -⟩ := id Cv0
  unfold o_objinit at h
  split at h
  · rename_i a r
    obtain ⟨hcat, h⟩ := h
    have h2 : ((r.map fun v => v.category).sum) ≤ 8 := hcat
    refine W.objInit C.1 C.2.1 C.2.2.2.1 (C.2.2.2.2.1 _ hw1) (C.2.2.2.2.1 _ hw2) (C.2.2.2.2.1 _ hw3) rfl (by rw [C.2.2.1]; exact hl.1) rfl d9 (by omega) (by show 2 * 0 + _ + 12 ≤ _; omega) ?_
    exact hX _ _ _ _ h H locs arr hH hl
  · exact h.elim
/-- what every call that throws nothing shares -/
theorem callN_end (C : Cx p l R s m args c D cy base c0 z0 nL cc own) (hX : ∀ pc ls st S, X pc ls st S → Mc p l e R s m args below meth c Z D cy base c0 z0 nL pc ls st S) {S : M9} {H : Heap} {locs : List Loc} {arr : Array Slot} {st rest : List Value} {ls : List (Option Value)} {a : Array Value} (hH : Hd s D cy base c0 z0 H locs S) (hl : lh arr nL ls)
    (hrun : va_Run p l e R s m args below meth c H locs (gC S - c0) (gZ S - z0) (cCM - gC S) (cSM - gZ S) (F0 m pc arr st) rest (qcD D cy base S (behN X (pc + 3) ls rest) a) (kA base)) :
    W p l e R s m args below meth c H locs (gC S - c0) (gZ S - z0) Z (F0 m pc arr st) := by
  obtain ⟨e1, e2, e3, e4⟩ := hH.2.2.2
  refine mc_callN hrun hH.2.2.1 (fun v S' H1 locs1 hq hP1 hD1 hS1 g1 g2 g3 g4 => ?_)
  refine W.cs (cells' := gC S' - c0) (slots' := gZ S' - z0) (by omega) (by omega) ?_
  cases v with
  | none => exact hX _ _ _ _ hq H1 locs1 arr ⟨hP1, hD1, hS1, by omega, by omega, g3, g4⟩ hl
  | some v => exact hX _ _ _ _ hq H1 locs1 arr ⟨hP1, hD1, hS1, by omega, by omega, g3, g4⟩ hl
theorem GoodC {nm : MethodName} {bytes : ByteArray} {maxL : Nat} {ret : Option FieldType} (hw0 : Cond.code nm bytes maxL ret ∈ TW) : GoodIn TW (Cond.code nm bytes maxL ret :: TW) := goodTW (by
    intro w hw
    rcases List.mem_cons.mp hw with rfl | hw
    · exact hw0
    · exact hw)
theorem par_of {desc : String} {n k : Nat} (h : (parseMethodDescriptor desc).map (fun d => d.parameters.length + 1) = some n) (hk : k + 1 = n) : (parseMethodDescriptor desc).map (fun d => d.parameters.length) = some k := by
  cases hq : parseMethodDescriptor desc with
  | none => rw [hq] at h; cases h
  | some q => rw [hq] at h; simp at h ⊢; omega
/-- a constructor -/
theorem ok_calli (C : Cx p l R s m args c D cy base c0 z0 nL cc own) (hX : ∀ pc ls st S, X pc ls st S → Mc p l e R s m args below meth c Z D cy base c0 z0 nL pc ls st S) (Cv0 : Cv l R s meth ks base (d + 1)) {nmw : Nat → MethodName × List Cond} (hcl : Snd l ks D cy base nmw d cl) {y n index maxL : Nat} {nm : MethodName} {bytes : ByteArray} {host : String} (hy : nmw y = (nm, Cond.code nm bytes maxL none :: TW)) (hw0 : Cond.code nm bytes maxL none ∈ TW) (hw1 : Cond.methodLink own index nm ∈ TW ∨ Cond.methodLinkNest own index nm host ∈ TN) (hw2 : Cond.instanceMethod nm ∈ TW) (hw4 : Cond.initialized nm.cls ∈ TW) (hini : nm.name = "<init>")
    (hd : nm.cls ≠ "java/lang/invoke/MethodHandle" ∧ nm.cls ≠ "java/lang/invoke/VarHandle" ∧ (parseMethodDescriptor nm.desc).map (fun d => d.parameters.length + 1) = some n) (hmL : maxL ≤ 100) (d9 : decode cc pc = .ok (.invokespecial index, 3)) : Ok p l e R s m args below meth c Z D cy base c0 z0 nL ks cl Q X pc (o_calli y n (pc + 3)) := by
  intro ls st S h H locs arr hH hl
  obtain ⟨hR1, hR2, -, hlocks, hog⟩ := id Cv0
  obtain ⟨hcat, ⟨b, r, hst, hn⟩, h⟩ := h
  obtain ⟨e1, e2, e3, e4⟩ := hH.2.2.2
  have hm := hcl y _ S _ e3 e4 h
  rw [hst, hy] at hm
  have hm2 := mok_met (fun _ _ h => h) hm
  have hRR : (rmD d S).frames + 1 ≤ R.frames ∧ 8 + (maxL + 11) + (rmD d S).locals ≤ R.locals := ⟨by show 10 * (d + 1) + 1 ≤ _; omega, by show 8 + (maxL + 11) + 200 * (d + 1) ≤ _; omega⟩
  refine callN_end C hX (rest := st.drop n) (a := (Value.ref b :: r).toArray) hH hl ?_
  rcases hw1 with hw1 | hw1
  · exact va_runI (As := r) (b := b) (n := r.length) (Ts := TW) (own := own) (g := F0 m pc arr st) (cc := cc) (nL := nL) (index := index) (bytes := bytes) (maxL := maxL)
      ⟨C.1, C.2.1, C.2.2.1, C.2.2.2.1, C.2.2.2.2.1⟩ hm2 (cwI r.length C.2.2.2.2.1 (GoodC hw0) rfl rfl rfl (C.2.2.2.2.1 _ hw4) (C.2.2.2.2.1 _ hw1) (C.2.2.2.2.1 _ hw2) hini ⟨hd.1, hd.2.1, par_of hd.2.2 hn⟩ hRR)
      ⟨pcD_blind, fun U hU hW => ⟨rfl, hu_of C hog hH hU hW⟩⟩ rfl rfl (by show arr.size = nL; exact hl.1) (stk hst) (lv_room hcat) d9 ⟨by rw [C.2.2.2.2.2.2.2.1]; omega, by rw [C.2.2.2.2.2.2.2.2.1]; omega⟩
  · exact va_runIN (As := r) (b := b) (n := r.length) (Ts := TW) (own := own) (g := F0 m pc arr st) (cc := cc) (nL := nL) (index := index) (bytes := bytes) (maxL := maxL)
      ⟨C.1, C.2.1, C.2.2.1, C.2.2.2.1, C.2.2.2.2.1⟩ hm2 ⟨va_cnB r.length C.2.2.2.2.1 (GoodC hw0) rfl rfl rfl (C.2.2.2.2.2.2.2.2.2 _ hw1) (C.2.2.2.2.1 _ hw4) ⟨hd.1, hd.2.1, par_of hd.2.2 hn⟩ hRR, hini, C.2.2.2.2.1 _ hw2⟩
      ⟨pcD_blind, fun U hU hW => ⟨rfl, hu_of C hog hH hU hW⟩⟩ rfl rfl (by show arr.size = nL; exact hl.1) (stk hst) (lv_room hcat) d9 ⟨by rw [C.2.2.2.2.2.2.2.1]; omega, by rw [C.2.2.2.2.2.2.2.2.1]; omega⟩
/-- super.y(..) -/
theorem ok_callsup (C : Cx p l R s m args c D cy base c0 z0 nL cc own) (hX : ∀ pc ls st S, X pc ls st S → Mc p l e R s m args below meth c Z D cy base c0 z0 nL pc ls st S) (Cv0 : Cv l R s meth ks base (d + 1)) {nmw : Nat → MethodName × List Cond} (hcl : Snd l ks D cy base nmw d cl) {y n t index maxL N : Nat} {nm : MethodName} {bytes : ByteArray} {ret : Option FieldType} {Cn : String} {T : u_T} (hy : nmw y = (nm, Cond.code nm bytes maxL ret :: TW)) (hc : kCl[t]? = some (Cn, T, N)) (hw0 : Cond.code nm bytes maxL ret ∈ TW) (hw1 : Cond.methodLink own index nm ∈ TW) (hw5 : Cond.sameMethod nm.cls nm.cls nm.name nm.desc ∈ TW) (hw6 : Cond.superclass own nm.cls ∈ TW) (hw2 : Cond.instanceMethod nm ∈ TW) (hw4 : Cond.initialized nm.cls ∈ TW)
    (hd : nm.name ≠ "<init>" ∧ (parseMethodDescriptor nm.desc).map (fun d => d.parameters.length + 1) = some n) (hmL : maxL ≤ 100) (d9 : decode cc pc = .ok (.invokespecial index, 3)) : Ok p l e R s m args below meth c Z D cy base c0 z0 nL ks cl Q X pc (o_callvN y n t (pc + 3)) := by
  intro ls st S h H locs arr hH hl
  obtain ⟨hR1, hR2, -, hlocks, hog⟩ := id Cv0
  obtain ⟨hcat, ⟨b, r, hst, hn, hb, hbk⟩, h⟩ := h
  obtain ⟨e1, e2, e3, e4⟩ := hH.2.2.2
  have hm := hcl y _ S _ e3 e4 h
  rw [hst, hy] at hm
  have hm2 := mok_met (fun _ _ h => h) hm
  have hRR : (rmD d S).frames + 1 ≤ R.frames ∧ 8 + (maxL + 11) + (rmD d S).locals ≤ R.locals := ⟨by show 10 * (d + 1) + 1 ≤ _; omega, by show 8 + (maxL + 11) + 200 * (d + 1) ≤ _; omega⟩
  have ht : t < 12 := (List.getElem?_eq_some_iff.mp hc).1
  obtain ⟨k0, hk0⟩ := pool_get (cy := cy) hb
  rw [cell_obj hbk ht] at hk0
  have hT : GoodIn TW (va_wsSU own index nm (Cond.code nm bytes maxL ret :: TW)) := goodTW (by
    intro w hw
    simp only [va_wsSU, List.cons_append, List.nil_append, List.mem_cons] at hw
    rcases hw with rfl | rfl | rfl | rfl | rfl | rfl | hw
    · exact hw1
    · exact hw5
    · exact hw6
    · exact hw2
    · exact hw4
    · exact hw0
    · exact hw)
  refine callN_end C hX (rest := st.drop n) (a := (Value.ref b :: r).toArray) hH hl ?_
  exact va_runSU (As := r) (b := b) (C := Cn) (n := r.length) (Ts := TW) (own := own) (g := F0 m pc arr st) (cc := cc) (nL := nL) (index := index) (bytes := bytes) (maxL := maxL) (ret := ret)
      (C.2.2.2.2.2.1.1 t _ hc).2 ⟨C.1, C.2.1, C.2.2.1, C.2.2.2.1, C.2.2.2.2.1⟩ hm2 (va_cwSU r.length C.2.2.2.2.1 hT rfl rfl rfl ⟨hd.1, par_of hd.2 hn⟩ hRR)
      ⟨pcD_blind, va_recv C.2.2.2.2.2.1 hH.1 hc hk0, fun U hU hW => ⟨rfl, hu_of C hog hH hU hW⟩⟩ rfl rfl (by show arr.size = nL; exact hl.1) (stk hst) (lv_room hcat) d9 ⟨by rw [C.2.2.2.2.2.2.2.1]; omega, by rw [C.2.2.2.2.2.2.2.2.1]; omega⟩
/-- a call of a method that the object's class inherits -/
theorem ok_callinh (C : Cx p l R s m args c D cy base c0 z0 nL cc own) (hX : ∀ pc ls st S, X pc ls st S → Mc p l e R s m args below meth c Z D cy base c0 z0 nL pc ls st S) (Cv0 : Cv l R s meth ks base (d + 1)) {nmw : Nat → MethodName × List Cond} (hcl : Snd l ks D cy base nmw d cl) {y n t index maxL N : Nat} {nm : MethodName} {bytes : ByteArray} {ret : Option FieldType} {Cn : String} {T : u_T} (hy : nmw y = (nm, Cond.code nm bytes maxL ret :: TW)) (hc : kCl[t]? = some (Cn, T, N)) (hw0 : Cond.code nm bytes maxL ret ∈ TW) (hw1 : Cond.methodLink own index nm ∈ TW) (hw5 : Cond.sameMethod nm.cls nm.cls nm.name nm.desc ∈ TW) (hw6 : Cond.selects Cn nm nm ∈ TW) (hw2 : Cond.instanceMethod nm ∈ TW) (hw4 : Cond.initialized nm.cls ∈ TW)
    (hd : nm.cls ≠ "java/lang/invoke/MethodHandle" ∧ nm.cls ≠ "java/lang/invoke/VarHandle" ∧ (parseMethodDescriptor nm.desc).map (fun d => d.parameters.length + 1) = some n) (hmL : maxL ≤ 100) (d9 : decode cc pc = .ok (.invokevirtual index, 3)) : Ok p l e R s m args below meth c Z D cy base c0 z0 nL ks cl Q X pc (o_callvN y n t (pc + 3)) := by
  intro ls st S h H locs arr hH hl
  obtain ⟨hR1, hR2, -, hlocks, hog⟩ := id Cv0
  obtain ⟨hcat, ⟨b, r, hst, hn, hb, hbk⟩, h⟩ := h
  obtain ⟨e1, e2, e3, e4⟩ := hH.2.2.2
  have hm := hcl y _ S _ e3 e4 h
  rw [hst, hy] at hm
  have hm2 := mok_met (fun _ _ h => h) hm
  have hRR : (rmD d S).frames + 1 ≤ R.frames ∧ 8 + (maxL + 11) + (rmD d S).locals ≤ R.locals := ⟨by show 10 * (d + 1) + 1 ≤ _; omega, by show 8 + (maxL + 11) + 200 * (d + 1) ≤ _; omega⟩
  have ht : t < 12 := (List.getElem?_eq_some_iff.mp hc).1
  obtain ⟨k0, hk0⟩ := pool_get (cy := cy) hb
  rw [cell_obj hbk ht] at hk0
  have hT : GoodIn TW (va_wsU own index Cn nm.cls nm nm (Cond.code nm bytes maxL ret :: TW)) := goodTW (by
    intro w hw
    simp only [va_wsU, List.cons_append, List.nil_append, List.mem_cons] at hw
    rcases hw with rfl | rfl | rfl | rfl | rfl | rfl | hw
    · exact hw1
    · exact hw5
    · exact hw6
    · exact hw2
    · exact hw4
    · exact hw0
    · exact hw)
  refine callN_end C hX (rest := st.drop n) (a := (Value.ref b :: r).toArray) hH hl ?_
  exact va_runU (As := r) (b := b) (C := Cn) (owner := nm.cls) (x := nm) (n := r.length) (Ts := TW) (own := own) (g := F0 m pc arr st) (cc := cc) (nL := nL) (index := index) (bytes := bytes) (maxL := maxL) (ret := ret)
      ⟨C.1, C.2.1, C.2.2.1, C.2.2.2.1, C.2.2.2.2.1⟩ hm2 (va_cwU r.length C.2.2.2.2.1 hT rfl rfl rfl rfl ⟨hd.1, hd.2.1, par_of hd.2.2 hn⟩ hRR)
      ⟨pcD_blind, va_recv C.2.2.2.2.2.1 hH.1 hc hk0, fun U hU hW => ⟨rfl, hu_of C hog hH hU hW⟩⟩ rfl rfl (by show arr.size = nL; exact hl.1) (stk hst) (lv_room hcat) d9 ⟨by rw [C.2.2.2.2.2.2.2.1]; omega, by rw [C.2.2.2.2.2.2.2.2.1]; omega⟩
/-- new E, dup, ldc, the constructor, athrow -/
theorem ok_throw (C : Cx p l R s m args c D cy base c0 z0 nL cc own) (hX : ∀ pc ls st S, X pc ls st S → Mc p l e R s m args below meth c Z D cy base c0 z0 nL pc ls st S) (Cy0 : Cy l R s args below meth c Z ks D cy base c0 z0 d Q S0 []) {E text : String} {ik is ic : Nat} (hwk : Cond.classLink own ik E ∈ TW) (hwi : Cond.initialized E ∈ TW) (hstr : (own, is, text) ∈ strG) (hat : ∀ w ∈ vx_atS own ic E ["java/lang/RuntimeException", "java/lang/Exception"], w ∈ TW ∨ (w ∈ TN ∧ w.onTables = true)) (hg : ∀ w ∈ Cond.classLink own ik E :: Cond.initialized E :: vx_atS own ic E ["java/lang/RuntimeException", "java/lang/Exception"], vx_ot w = true) (hfit : Bundle.fit E = true) (hfits : ∀ n ∈ ["java/lang/RuntimeException", "java/lang/Exception"], Bundle.fit n = true)
    (d0 : decode cc pc = .ok (.new ik, 3)) (d3 : decode cc (pc + 3) = .ok (.dup, 1)) (d4 : decode cc (pc + 4) = .ok (.ldc is, 2)) (d6 : decode cc (pc + 6) = .ok (.invokespecial ic, 3)) (d9 : decode cc (pc + 9) = .ok (.athrow, 1)) : Ok p l e R s m args below meth c Z D cy base c0 z0 nL ks cl Q X pc (o_throw E) := by
  intro ls st S h H locs arr hH hl
  obtain ⟨⟨rfl, rfl, ⟨hR1, hR2, hst, hlocks, hog⟩, rfl⟩, hex⟩ := id Cy0
  obtain ⟨hcat, h1, h2, h⟩ := h
  obtain ⟨hP, hD, hS, e1, e2, e3, e4⟩ := id hH
  obtain ⟨sa, hsa⟩ := hog.1 _ hstr
  have h8 : ((st.map fun v => v.category).sum) ≤ 8 := hcat
  refine w_mono (fun t => ?_) (vx_throwS (Qc := fun _ _ _ _ => False) (XC := fun E' st t => E' = E ∧ H.size ≤ t.heap.size ∧ ∀ q : Nat, q < H.size → t.heap[q]? = H[q]?) (free := kA base) (mc := gC S - gC S0 + 1) (ms := gZ S - gZ S0 + 6) (names := ["java/lang/RuntimeException", "java/lang/Exception"]) C.1 C.2.1 hst C.2.2.2.1 hfit hfits (C.2.2.2.2.1 _ hwk) (C.2.2.2.2.1 _ hwi) hsa
    (fun w hw => (hat w hw).elim (fun q => C.2.2.2.2.1 _ q) (fun q => va_Nw.use q.2 (C.2.2.2.2.2.2.2.2.2 _ q.1))) hg hog.2.2.2.1.1 hog.2.2.2.1.2 hS (by rw [C.2.2.1]; exact hl.1) d0 d3 d4 d6 d9 (fun x hx => absurd hx (by rw [hex]; exact List.not_mem_nil))
    (by show 2 + 3 < _; omega) (by show _ + (13 * (2 + 1) + 43) ≤ _; omega) (by rw [C.2.2.2.2.2.2.2.1]; omega) (by rw [C.2.2.2.2.2.2.2.2.1]; omega) hlocks (fun t _ z1 z2 => ⟨rfl, z1, z2⟩) hS.2.2 (Nat.le_refl _) (Nat.le_refl _))
  rintro ⟨o, b1, b2, ⟨hf, -⟩ | ⟨q, rfl, E', ce', L, ⟨rfl, k1, k2⟩, g1, g2, g3, g4, g5, g6⟩⟩
  · exact hf.elim
  · have hz := hsz_of g5
    have hgc : gC (sC S 1 6) = gC S + 1 := rfl
    have hgz : gZ (sC S 1 6) = gZ S + 6 := rfl
    refine ⟨_, b1, b2, Or.inr ⟨q, rfl, E', ce', L, ⟨sC S 1 6, h, ?_, hD, ⟨Nat.le_trans hS.1 k1, fun a ha hA => ?_⟩, by omega, by omega, by omega, by omega, ?_, ?_⟩, g1, g2, g3, g4, g5.mono (by omega) (by omega), g6⟩⟩
    · exact hP.kept fun k x hx => k2 _ (hP k x hx).lt
    · rw [k2 a (Nat.lt_of_lt_of_le ha hS.1)]
      exact hS.2.1 a ha hA
    · have := hz.1
      have e5 : ({ t with vm := s.vm } : State).heap = t.heap := rfl
      rw [e5] at this
      omega
    · have := hz.2
      have e5 : ({ t with vm := s.vm } : State).heap = t.heap := rfl
      rw [e5] at this
      omega
/-- new E, dup, ldc_w, the constructor, athrow -/
theorem ok_throwW (C : Cx p l R s m args c D cy base c0 z0 nL cc own) (hX : ∀ pc ls st S, X pc ls st S → Mc p l e R s m args below meth c Z D cy base c0 z0 nL pc ls st S) (Cy0 : Cy l R s args below meth c Z ks D cy base c0 z0 d Q S0 []) {E text : String} {ik is ic : Nat} (hwk : Cond.classLink own ik E ∈ TW) (hwi : Cond.initialized E ∈ TW) (hstr : (own, is, text) ∈ strG) (hat : ∀ w ∈ vx_atS own ic E ["java/lang/RuntimeException", "java/lang/Exception"], w ∈ TW ∨ (w ∈ TN ∧ w.onTables = true)) (hg : ∀ w ∈ Cond.classLink own ik E :: Cond.initialized E :: vx_atS own ic E ["java/lang/RuntimeException", "java/lang/Exception"], vx_ot w = true) (hfit : Bundle.fit E = true) (hfits : ∀ n ∈ ["java/lang/RuntimeException", "java/lang/Exception"], Bundle.fit n = true)
    (d0 : decode cc pc = .ok (.new ik, 3)) (d3 : decode cc (pc + 3) = .ok (.dup, 1)) (d4 : decode cc (pc + 4) = .ok (.ldc_w is, 3)) (d6 : decode cc (pc + 7) = .ok (.invokespecial ic, 3)) (d9 : decode cc (pc + 10) = .ok (.athrow, 1)) : Ok p l e R s m args below meth c Z D cy base c0 z0 nL ks cl Q X pc (o_throw E) := by
  intro ls st S h H locs arr hH hl
  obtain ⟨⟨rfl, rfl, ⟨hR1, hR2, hst, hlocks, hog⟩, rfl⟩, hex⟩ := id Cy0
  obtain ⟨hcat, h1, h2, h⟩ := h
  obtain ⟨hP, hD, hS, e1, e2, e3, e4⟩ := id hH
  obtain ⟨sa, hsa⟩ := hog.1 _ hstr
  have h8 : ((st.map fun v => v.category).sum) ≤ 8 := hcat
  refine w_mono (fun t => ?_) (vx_throwSW (Qc := fun _ _ _ _ => False) (XC := fun E' st t => E' = E ∧ H.size ≤ t.heap.size ∧ ∀ q : Nat, q < H.size → t.heap[q]? = H[q]?) (free := kA base) (mc := gC S - gC S0 + 1) (ms := gZ S - gZ S0 + 6) (names := ["java/lang/RuntimeException", "java/lang/Exception"]) C.1 C.2.1 hst C.2.2.2.1 hfit hfits (C.2.2.2.2.1 _ hwk) (C.2.2.2.2.1 _ hwi) hsa
    (fun w hw => (hat w hw).elim (fun q => C.2.2.2.2.1 _ q) (fun q => va_Nw.use q.2 (C.2.2.2.2.2.2.2.2.2 _ q.1))) hg hog.2.2.2.1.1 hog.2.2.2.1.2 hS (by rw [C.2.2.1]; exact hl.1) d0 d3 d4 d6 d9 (fun x hx => absurd hx (by rw [hex]; exact List.not_mem_nil))
    (by show 2 + 3 < _; omega) (by show _ + (13 * (2 + 1) + 43) ≤ _; omega) (by rw [C.2.2.2.2.2.2.2.1]; omega) (by rw [C.2.2.2.2.2.2.2.2.1]; omega) hlocks (fun t _ z1 z2 => ⟨rfl, z1, z2⟩) hS.2.2 (Nat.le_refl _) (Nat.le_refl _))
  rintro ⟨o, b1, b2, ⟨hf, -⟩ | ⟨q, rfl, E', ce', L, ⟨rfl, k1, k2⟩, g1, g2, g3, g4, g5, g6⟩⟩
  · exact hf.elim
  · have hz := hsz_of g5
    have hgc : gC (sC S 1 6) = gC S + 1 := rfl
    have hgz : gZ (sC S 1 6) = gZ S + 6 := rfl
    refine ⟨_, b1, b2, Or.inr ⟨q, rfl, E', ce', L, ⟨sC S 1 6, h, ?_, hD, ⟨Nat.le_trans hS.1 k1, fun a ha hA => ?_⟩, by omega, by omega, by omega, by omega, ?_, ?_⟩, g1, g2, g3, g4, g5.mono (by omega) (by omega), g6⟩⟩
    · exact hP.kept fun k x hx => k2 _ (hP k x hx).lt
    · rw [k2 a (Nat.lt_of_lt_of_le ha hS.1)]
      exact hS.2.1 a ha hA
    · have := hz.1
      have e5 : ({ t with vm := s.vm } : State).heap = t.heap := rfl
      rw [e5] at this
      omega
    · have := hz.2
      have e5 : ({ t with vm := s.vm } : State).heap = t.heap := rfl
      rw [e5] at this
      omega
theorem ok_acopy (C : Cx p l R s m args c D cy base c0 z0 nL cc own) (hX : ∀ pc ls st S, X pc ls st S → Mc p l e R s m args below meth c Z D cy base c0 z0 nL pc ls st S) (Cv0 : Cv l R s meth ks base d) {index : Nat} (hw1 : Cond.methodLink own index arraycopyName ∈ TW) (hw2 : Cond.native arraycopyName ∈ TW) (hw3 : Cond.static arraycopyName ∈ TW) (hw4 : Cond.initialized "java/lang/System" ∈ TW) (d9 : decode cc pc = .ok (.invokestatic index, 3)) : Ok p l e R s m args below meth c Z D cy base c0 z0 nL ks cl Q X pc (o_acopy (pc + 3)) := by
  intro ls st S h H locs arr hH hl
  obtain ⟨hR1, hR2, -⟩ := id Cv0
  unfold o_acopy at h
  split at h
  · rename_i n dp dd sp a r
    obtain ⟨hcat, ha, ka, hd, kd, h1, h2, h3, h4, h5, h⟩ := h
    have h8 : ((r.map fun v => v.category).sum) ≤ 8 := hcat
    have hnf : nativeFrameWords "java/lang/System" "arraycopy" 5 + 11 ≤ 100 := by decide +kernel
    obtain ⟨k0, hk0⟩ := pool_get (cy := cy) ha
    obtain ⟨k1, hk1⟩ := pool_get (cy := cy) hd
    have hps := fun e => pool_set (S' := sW S (gK S dd) dd (va_cpy (gI S (gK S a) a) (gI S (gK S dd) dd) sp.toNatClampNeg dp.toNatClampNeg n.toNatClampNeg)) (e := e) hH.2.1 hd hk1 rfl (agr_sW S (gK S dd) dd _)
    refine va_copyi (ty := .int) C.1 C.2.1 (by rw [C.2.2.1]; exact hl.1.symm) C.2.2.2.1 (C.2.2.2.2.1 _ hw1) (C.2.2.2.2.1 _ hw2) (C.2.2.2.2.1 _ hw3) (C.2.2.2.2.1 _ hw4) C.2.2.2.2.2.1 hH.1 hH.2.1 hH.2.2.1 k0 k1 5 5 (pool_int ka hk0) (pool_int kd hk1) rfl rfl rfl h1 h2 h3 h4 h5 (fun _ _ => rfl) (by omega) (by omega) d9 (fun H1 locs1 hP1 hD1 hS1 => ?_)
    rw [hps _ (by rw [cell_int (S := sW S (gK S dd) dd _) (t := gK S dd) rfl kd, gI_sW, if_pos ⟨rfl, rfl⟩]; rfl)] at hP1 hD1
    exact hX _ _ _ _ h H1 locs1 arr ⟨hP1, hD1, hS1, hH.2.2.2⟩ hl
  · exact h.elim
theorem ok_bcopy (C : Cx p l R s m args c D cy base c0 z0 nL cc own) (hX : ∀ pc ls st S, X pc ls st S → Mc p l e R s m args below meth c Z D cy base c0 z0 nL pc ls st S) (Cv0 : Cv l R s meth ks base d) {index : Nat} (hw1 : Cond.methodLink own index arraycopyName ∈ TW) (hw2 : Cond.native arraycopyName ∈ TW) (hw3 : Cond.static arraycopyName ∈ TW) (hw4 : Cond.initialized "java/lang/System" ∈ TW) (d9 : decode cc pc = .ok (.invokestatic index, 3)) : Ok p l e R s m args below meth c Z D cy base c0 z0 nL ks cl Q X pc (o_bcopy (pc + 3)) := by
  intro ls st S h H locs arr hH hl
  obtain ⟨hR1, hR2, -⟩ := id Cv0
  unfold o_bcopy at h
  split at h
  · rename_i n dp dd sp a r
    obtain ⟨hcat, ha, ka, hd, kd, h1, h2, h3, h4, h5, hfit, h⟩ := h
    have h8 : ((r.map fun v => v.category).sum) ≤ 8 := hcat
    have hnf : nativeFrameWords "java/lang/System" "arraycopy" 5 + 11 ≤ 100 := by decide +kernel
    obtain ⟨k0, hk0⟩ := pool_get (cy := cy) ha
    obtain ⟨k1, hk1⟩ := pool_get (cy := cy) hd
    have hps := fun e => pool_set (S' := sW S 15 dd (va_cpy (gI S 15 a) (gI S 15 dd) sp.toNatClampNeg dp.toNatClampNeg n.toNatClampNeg)) (e := e) hH.2.1 hd hk1 rfl (agr_sW S 15 dd _)
    rw [cell_arr ka (by omega)] at hk0
    rw [cell_arr kd (by omega)] at hk1
    refine va_copyi (ty := .byte) C.1 C.2.1 (by rw [C.2.2.1]; exact hl.1.symm) C.2.2.2.1 (C.2.2.2.2.1 _ hw1) (C.2.2.2.2.1 _ hw2) (C.2.2.2.2.1 _ hw3) (C.2.2.2.2.1 _ hw4) C.2.2.2.2.2.1 hH.1 hH.2.1 hH.2.2.1 k0 k1 3 3 hk0 hk1 rfl rfl rfl h1 h2 h3 h4 h5 hfit (by omega) (by omega) d9 (fun H1 locs1 hP1 hD1 hS1 => ?_)
    rw [hps _ (by rw [cell_arr (S := sW S 15 dd _) (t := 15) kd (by omega)]; simp [cnt, gI_sW, ay]; rfl)] at hP1 hD1
    exact hX _ _ _ _ h H1 locs1 arr ⟨hP1, hD1, hS1, hH.2.2.2⟩ hl
  · exact h.elim
theorem ok_clone (C : Cx p l R s m args c D cy base c0 z0 nL cc own) (hX : ∀ pc ls st S, X pc ls st S → Mc p l e R s m args below meth c Z D cy base c0 z0 nL pc ls st S) (Cv0 : Cv l R s meth ks base d) {index : Nat} {g : Nat → Prop} (hw1 : Cond.methodLink own index ⟨"[I", "clone", "()Ljava/lang/Object;"⟩ ∈ TW) (hw2 : Cond.sameMethod "[I" "java/lang/Object" "clone" "()Ljava/lang/Object;" ∈ TW) (hw3 : Cond.native ⟨"java/lang/Object", "clone", "()Ljava/lang/Object;"⟩ ∈ TW) (hw4 : Cond.instanceMethod ⟨"java/lang/Object", "clone", "()Ljava/lang/Object;"⟩ ∈ TW) (hw5 : Cond.selects "[I" ⟨"[I", "clone", "()Ljava/lang/Object;"⟩ ⟨"java/lang/Object", "clone", "()Ljava/lang/Object;"⟩ ∈ TW) (hw6 : Cond.castable "[I" "java/lang/Cloneable" ∈ TN) (d9 : decode cc pc = .ok (.invokevirtual index, 3)) : Ok p l e R s m args below meth c Z D cy base c0 z0 nL ks cl Q X pc (o_clone g (pc + 3)) := by
  intro ls st S h H locs arr hH hl
  obtain ⟨hRf, hRl, -⟩ := id Cv0
  unfold o_clone at h
  split at h
  · rename_i a r
    obtain ⟨hcat, ha, h17, hn, h1, h2, t, ht, -, h⟩ := h
    obtain ⟨-, -, -, -, -, hK, hb0, hR1, hR2, hTN⟩ := id C
    obtain ⟨hP, hD, hS, e1, e2, e3, e4⟩ := id hH
    have h8 : ((r.map fun v => v.category).sum) ≤ 8 := hcat
    obtain ⟨k0, hk0⟩ := pool_get (cy := cy) ha
    have hk1 := pool_int h17 hk0
    refine va_clone (D := D) (ad := "[I") (ty := .int) C.1 C.2.1 (by rw [C.2.2.1]; exact hl.1.symm) C.2.2.2.1 (C.2.2.2.2.1 _ hw1) (C.2.2.2.2.1 _ hw2) (C.2.2.2.2.1 _ hw3) (C.2.2.2.2.1 _ hw4) (C.2.2.2.2.1 _ hw5) (hTN _ hw6) hK hP hD hS (fun q hq => Nat.le_trans hb0 hq) k0 5 hk1 rfl (hK.2 5 (cy 5, .int) rfl).2 (fun i v hv => ?_) (by omega) (by omega) (by rw [hR1]; omega) (by rw [hR2]; show _ + gN S a ≤ _; omega) d9 (fun q H1 hK1 hP1 hD1 hS1 => ?_)
    · have hv2 : (arrV (cy 5) (gN S a) (fun j => Value.int (gI S (gK S a) a j))).slots[i]? = some v := hv
      have hi : i < gN S a := by
        have := (Array.getElem?_eq_some_iff.mp hv2).1
        rwa [arrV_size] at this
      rw [arrV_read _ _ hi] at hv2
      cases hv2
      rfl
    · have hq := new_out hD1
      obtain ⟨S', hS'⟩ : ∃ z, z = sW (nW S t q (gN S a) (gN S a)) t q (gI S (gK S a) a) := ⟨_, rfl⟩
      have hx := h q hq
      rw [← hS'] at hx
      have hpn := pool_new (cy := cy) (S' := S') (e := .inl (cy 5, gN S a, .inl (gI S (gK S a) a))) hq (by rw [hS']; rfl) (by
        rw [hS']
        intro b hb
        obtain ⟨a1, a2, a3, a4, a5, a6⟩ := agr_nW S t q (gN S a) (gN S a) b hb
        exact ⟨a1, a2, fun t' => by rw [gI_sW, if_neg (fun z => hb z.2)]; exact a3 t', a4, a5, a6⟩) (by
        rw [cell_int (S := S') (t := t) (by rw [hS', gK_sW, gK_nW, if_pos rfl]) ht, hS', gN_sW, gN_nW, if_pos rfl, gI_sW, if_pos ⟨rfl, rfl⟩])
      rw [hpn] at hP1 hD1
      have hgc : gC S' = gC S + 1 := by rw [hS']; rfl
      have hgz : gZ S' = gZ S + gN S a := by rw [hS']; rfl
      refine W.cs (cells' := gC S' - c0) (slots' := gZ S' - z0) (by omega) (by show gZ S - z0 + gN S a = _; omega) ?_
      exact hX _ _ _ _ hx H1 locs arr ⟨hP1, hD1, hS1, by omega, by omega, by omega, by omega⟩ hl
  · exact h.elim
theorem ok_ldcS (C : Cx p l R s m args c D cy base c0 z0 nL cc own) (hX : ∀ pc ls st S, X pc ls st S → Mc p l e R s m args below meth c Z D cy base c0 z0 nL pc ls st S) (Cv0 : Cv l R s meth ks base d) {index i : Nat} {text : String} (hk : (own, index, text, i) ∈ kstG) (d9 : decode cc pc = .ok (.ldc index, 2)) : Ok p l e R s m args below meth c Z D cy base c0 z0 nL ks cl Q X pc (o_ldcS i (pc + 2)) := by
  intro ls st S h H locs arr hH hl
  obtain ⟨-, -, -, -, hog⟩ := id Cv0
  exact va_ldcS C.1 C.2.1 C.2.2.2.1 (hog.2.1 _ hk) d9 (hX _ _ _ _ h H locs arr hH hl)
theorem ok_kval (C : Cx p l R s m args c D cy base c0 z0 nL cc own) (hX : ∀ pc ls st S, X pc ls st S → Mc p l e R s m args below meth c Z D cy base c0 z0 nL pc ls st S) (Cv0 : Cv l R s meth ks base d) {index : Nat} (hw : Cond.fieldLink own index "java/lang/String" "value" "[B" ∈ TW) (d9 : decode cc pc = .ok (.getfield index, 3)) : Ok p l e R s m args below meth c Z D cy base c0 z0 nL ks cl Q X pc (o_kval (pc + 3)) := by
  intro ls st S h H locs arr hH hl
  obtain ⟨-, -, -, -, hog⟩ := id Cv0
  unfold o_kval at h
  split at h
  · obtain ⟨i, hi, rfl, h⟩ := h
    exact vk_getf C.1 C.2.1 (hog.2.2.2.2.1.1 i hi).2.2.1 hH.2.2.1 C.2.2.2.1 (C.2.2.2.2.1 _ hw) (fun _ z => z) d9 (hX _ _ _ _ h H locs arr hH hl)
  · exact h.elim
theorem ok_kcoder (C : Cx p l R s m args c D cy base c0 z0 nL cc own) (hX : ∀ pc ls st S, X pc ls st S → Mc p l e R s m args below meth c Z D cy base c0 z0 nL pc ls st S) (Cv0 : Cv l R s meth ks base d) {index : Nat} (hw : Cond.fieldLink own index "java/lang/String" "coder" "B" ∈ TW) (d9 : decode cc pc = .ok (.getfield index, 3)) : Ok p l e R s m args below meth c Z D cy base c0 z0 nL ks cl Q X pc (o_kcoder (pc + 3)) := by
  intro ls st S h H locs arr hH hl
  obtain ⟨-, -, -, -, hog⟩ := id Cv0
  unfold o_kcoder at h
  split at h
  · obtain ⟨i, hi, rfl, h⟩ := h
    exact vk_getf C.1 C.2.1 (hog.2.2.2.2.1.1 i hi).2.1 hH.2.2.1 C.2.2.2.1 (C.2.2.2.2.1 _ hw) (fun _ z => z) d9 (hX _ _ _ _ h H locs arr hH hl)
  · exact h.elim
theorem ok_klen (C : Cx p l R s m args c D cy base c0 z0 nL cc own) (hX : ∀ pc ls st S, X pc ls st S → Mc p l e R s m args below meth c Z D cy base c0 z0 nL pc ls st S) (Cv0 : Cv l R s meth ks base d) (d9 : decode cc pc = .ok (.arraylength, 1)) : Ok p l e R s m args below meth c Z D cy base c0 z0 nL ks cl Q X pc (o_klen (pc + 1)) := by
  intro ls st S h H locs arr hH hl
  obtain ⟨-, -, -, -, hog⟩ := id Cv0
  unfold o_klen at h
  split at h
  · obtain ⟨i, hi, rfl, h⟩ := h
    exact va_tlen C.1 C.2.1 (hog.2.2.2.2.1.1 i hi).2.2.2 hH.2.2.1 rfl d9 (hX _ _ _ _ h H locs arr hH hl)
  · exact h.elim
theorem ok_kald (C : Cx p l R s m args c D cy base c0 z0 nL cc own) (hX : ∀ pc ls st S, X pc ls st S → Mc p l e R s m args below meth c Z D cy base c0 z0 nL pc ls st S) (Cv0 : Cv l R s meth ks base d) (d9 : decode cc pc = .ok (.baload, 1)) : Ok p l e R s m args below meth c Z D cy base c0 z0 nL ks cl Q X pc (o_kald (pc + 1)) := by
  intro ls st S h H locs arr hH hl
  obtain ⟨-, -, -, -, hog⟩ := id Cv0
  unfold o_kald at h
  split at h
  · obtain ⟨i, hi, rfl, hin, h⟩ := h
    exact va_tb C.1 C.2.1 (hog.2.2.2.2.1.1 i hi).2.2.2 hH.2.2.1 hin rfl d9 (hX _ _ _ _ h H locs arr hH hl)
  · exact h.elim
theorem ok_tald (C : Cx p l R s m args c D cy base c0 z0 nL cc own) (hX : ∀ pc ls st S, X pc ls st S → Mc p l e R s m args below meth c Z D cy base c0 z0 nL pc ls st S) (Cv0 : Cv l R s meth ks base d) (d9 : decode cc pc = .ok (.baload, 1)) : Ok p l e R s m args below meth c Z D cy base c0 z0 nL ks cl Q X pc (o_tald (pc + 1)) := by
  intro ls st S h H locs arr hH hl
  obtain ⟨-, -, -, -, hog⟩ := id Cv0
  unfold o_tald at h
  split at h
  · rename_i k a r
    obtain ⟨hin, ha, h1, h2⟩ := h
    by_cases e : a = ks 10
    · subst e
      exact va_tb C.1 C.2.1 hog.2.2.2.2.2.2.1.2 hH.2.2.1 hin rfl d9 (hX _ _ _ _ (h1 rfl) H locs arr hH hl)
    · have e2 := ha.resolve_left e
      have h3 := h2 e
      subst e2
      exact va_tb C.1 C.2.1 hog.2.2.2.2.2.2.2.1.2 hH.2.2.1 hin rfl d9 (hX _ _ _ _ h3 H locs arr hH hl)
  · exact h.elim
theorem ok_gtens (C : Cx p l R s m args c D cy base c0 z0 nL cc own) (hX : ∀ pc ls st S, X pc ls st S → Mc p l e R s m args below meth c Z D cy base c0 z0 nL pc ls st S) (Cv0 : Cv l R s meth ks base d) {index : Nat} (hw : Cond.fieldLink own index "java/lang/Integer" "DigitTens" "[B" ∈ TW) (d9 : decode cc pc = .ok (.getstatic index, 3)) : Ok p l e R s m args below meth c Z D cy base c0 z0 nL ks cl Q X pc (o_ldcS 10 (pc + 3)) := by
  intro ls st S h H locs arr hH hl
  obtain ⟨-, -, -, -, hog⟩ := id Cv0
  exact va_gets C.1 C.2.1 hog.2.2.2.2.2.2.1.1 hH.2.2.1 C.2.2.2.1 (C.2.2.2.2.1 _ hw) (fun _ z => z) d9 (hX _ _ _ _ h H locs arr hH hl)
theorem ok_gones (C : Cx p l R s m args c D cy base c0 z0 nL cc own) (hX : ∀ pc ls st S, X pc ls st S → Mc p l e R s m args below meth c Z D cy base c0 z0 nL pc ls st S) (Cv0 : Cv l R s meth ks base d) {index : Nat} (hw : Cond.fieldLink own index "java/lang/Integer" "DigitOnes" "[B" ∈ TW) (d9 : decode cc pc = .ok (.getstatic index, 3)) : Ok p l e R s m args below meth c Z D cy base c0 z0 nL ks cl Q X pc (o_ldcS 11 (pc + 3)) := by
  intro ls st S h H locs arr hH hl
  obtain ⟨-, -, -, -, hog⟩ := id Cv0
  exact va_gets C.1 C.2.1 hog.2.2.2.2.2.2.2.1.1 hH.2.2.1 C.2.2.2.1 (C.2.2.2.2.1 _ hw) (fun _ z => z) d9 (hX _ _ _ _ h H locs arr hH hl)
theorem ok_gcomp (C : Cx p l R s m args c D cy base c0 z0 nL cc own) (hX : ∀ pc ls st S, X pc ls st S → Mc p l e R s m args below meth c Z D cy base c0 z0 nL pc ls st S) (Cv0 : Cv l R s meth ks base d) {index : Nat} (hw : Cond.fieldLink own index "java/lang/String" "COMPACT_STRINGS" "Z" ∈ TW) (d9 : decode cc pc = .ok (.getstatic index, 3)) : Ok p l e R s m args below meth c Z D cy base c0 z0 nL ks cl Q X pc (o_const (.int 1) (pc + 3)) := by
  intro ls st S h H locs arr hH hl
  obtain ⟨-, -, -, -, hog⟩ := id Cv0
  exact va_gets C.1 C.2.1 hog.2.2.2.2.2.1 hH.2.2.1 C.2.2.2.1 (C.2.2.2.2.1 _ hw) (fun _ z => z) d9 (hX _ _ _ _ h H locs arr hH hl)
theorem ok_gform (C : Cx p l R s m args c D cy base c0 z0 nL cc own) (hX : ∀ pc ls st S, X pc ls st S → Mc p l e R s m args below meth c Z D cy base c0 z0 nL pc ls st S) (Cv0 : Cv l R s meth ks base d) {index : Nat} (hw : Cond.fieldLink own index "jdk/internal/util/Preconditions" "SIOOBE_FORMATTER" "Ljava/util/function/BiFunction;" ∈ TW) (d9 : decode cc pc = .ok (.getstatic index, 3)) : Ok p l e R s m args below meth c Z D cy base c0 z0 nL ks cl Q X pc (o_getSq (pc + 3)) := by
  intro ls st S h H locs arr hH hl
  obtain ⟨-, -, -, -, hog⟩ := id Cv0
  rcases hog.2.2.2.2.2.2.2.2 with hz | ⟨t, hz⟩
  · exact va_gets C.1 C.2.1 hz hH.2.2.1 C.2.2.2.1 (C.2.2.2.2.1 _ hw) (fun _ z => z) d9 (hX _ _ _ _ (h .null (Or.inl rfl)) H locs arr hH hl)
  · exact va_gets C.1 C.2.1 hz hH.2.2.1 C.2.2.2.1 (C.2.2.2.2.1 _ hw) (fun _ z => z) d9 (hX _ _ _ _ (h (.ref t) (Or.inr ⟨t, rfl⟩)) H locs arr hH hl)
theorem ok_callk (C : Cx p l R s m args c D cy base c0 z0 nL cc own) (hX : ∀ pc ls st S, X pc ls st S → Mc p l e R s m args below meth c Z D cy base c0 z0 nL pc ls st S) (Cy0 : Cy l R s args below meth c Z ks D cy base c0 z0 (d + 1) Q S0 []) {nmw : Nat → MethodName × List Cond} (hcl : Snd l ks D cy base nmw d cl) {y n index maxL : Nat} {nm : MethodName} {bytes : ByteArray} {ret : Option FieldType} (hy : nmw y = (nm, Cond.code nm bytes maxL ret :: TW)) (hnm : nm.cls = "java/lang/String") (hw0 : Cond.code nm bytes maxL ret ∈ TW) (hw1 : Cond.methodLink own index nm ∈ TW) (hw2 : Cond.instanceMethod nm ∈ TW) (hw3 : Cond.selects nm.cls nm nm ∈ TW) (hw4 : Cond.initialized nm.cls ∈ TW)
    (hd : nm.cls ≠ "java/lang/invoke/MethodHandle" ∧ nm.cls ≠ "java/lang/invoke/VarHandle" ∧ (parseMethodDescriptor nm.desc).map (fun d => d.parameters.length + 1) = some n) (hmL : maxL ≤ 100) (d9 : decode cc pc = .ok (.invokevirtual index, 3)) : Ok p l e R s m args below meth c Z D cy base c0 z0 nL ks cl Q X pc (o_callk y n (pc + 3)) := by
  intro ls st S h H locs arr hH hl
  obtain ⟨⟨rfl, rfl, ⟨hR1, hR2, -, hlocks, hog⟩, rfl⟩, hex⟩ := id Cy0
  obtain ⟨hcat, ⟨i, r, hi, hst, hn⟩, h⟩ := h
  obtain ⟨e1, e2, e3, e4⟩ := hH.2.2.2
  have hm := hcl y _ S _ e3 e4 h
  rw [hst] at hm
  unfold MOK at hm
  rw [hy] at hm
  have hT : GoodIn TW (wsV own index nm.cls nm (Cond.code nm bytes maxL ret :: TW)) := goodTW (by
    intro w hw
    simp only [wsV, List.cons_append, List.nil_append, List.mem_cons] at hw
    rcases hw with rfl | rfl | rfl | rfl | rfl | hw
    · exact hw1
    · exact hw2
    · exact hw3
    · exact hw4
    · exact hw0
    · exact hw)
  have hrun := vx_runV (p := p) (e := e) (R := R) (s := s) (m := m) (args := args) (below := below) (meth := meth) (c := c) (H := H) (locs := locs) (cells := gC S - gC S0) (slots := gZ S - gZ S0) (As := r) (b := ks i) (C := nm.cls) (rest := st.drop n) (n := r.length) (Ts := TW) (own := own) (g := F0 m pc arr st) (cc := cc) (nL := nL) (index := index) (bytes := bytes) (maxL := maxL) (ret := ret)
    ⟨C.1, C.2.1, C.2.2.1, C.2.2.2.1, C.2.2.2.2.1⟩ hm (cwV r.length C.2.2.2.2.1 hT rfl rfl rfl ⟨rfl, hd.1, hd.2.1, par_of hd.2.2 hn⟩ ⟨by show 10 * (d + 1) + 1 ≤ _; omega, by show 8 + (maxL + 11) + 200 * (d + 1) ≤ _; omega⟩)
    ⟨pcD_blind, by rw [hnm]; exact va_Orecv (hog.2.2.2.2.1.1 i hi).1 hH.2.2.1, fun U hU hW => ⟨rfl, hu_of C hog hH hU hW⟩⟩ rfl rfl (by show arr.size = nL; exact hl.1) (stk hst) (lv_room hcat) d9 ⟨by rw [C.2.2.2.2.2.2.2.1]; omega, by rw [C.2.2.2.2.2.2.2.2.1]; omega⟩
  refine mc_call hrun hH.2.2.1 (fun E ce q9 S' H1 locs1 hq hP1 hD1 hS1 g1 g2 g3 g4 hce hcv hcl9 => ?_) (fun v S' H1 locs1 hq hP1 hD1 hS1 g1 g2 g3 g4 => ?_)
  · refine vx_widen (k := gC S' - gC S0) (n := gZ S' - gZ S0) (by omega) (by omega) ?_
    exact out_end (fun x hx => absurd hx (by rw [hex]; exact List.not_mem_nil)) hlocks hP1 hD1 hS1 (by omega) (by omega) g3 g4 hq hce hcv hcl9
  · refine W.cs (cells' := gC S' - gC S0) (slots' := gZ S' - gZ S0) (by omega) (by omega) ?_
    cases v with
    | none => exact hX _ _ _ _ hq H1 locs1 arr ⟨hP1, hD1, hS1, by omega, by omega, g3, g4⟩ hl
    | some v => exact hX _ _ _ _ hq H1 locs1 arr ⟨hP1, hD1, hS1, by omega, by omega, g3, g4⟩ hl
theorem ok_tsw (C : Cx p l R s m args c D cy base c0 z0 nL cc own) (hX : ∀ pc ls st S, X pc ls st S → Mc p l e R s m args below meth c Z D cy base c0 z0 nL pc ls st S) {dflt hi : Int} {offs : Array Int} {len df : Nat} {tgs : List Nat} (d9 : decode cc pc = .ok (.tableswitch dflt 0 hi offs, len)) (hhi : hi + 1 = (tgs.length : Int)) (hl0 : tgs.length < 2 ^ 31) (hdf : (pc : Int) + dflt = (df : Int)) (ho : ∀ k, k < tgs.length → ∃ off, offs[k]? = some off ∧ (pc : Int) + off = (tgs.getD k 0 : Nat)) : Ok p l e R s m args below meth c Z D cy base c0 z0 nL ks cl Q X pc (o_tsw tgs df) := by
  intro ls st S h H locs arr hH hl
  unfold o_tsw at h
  split at h
  · rename_i x r
    obtain ⟨h1, h2⟩ := h
    by_cases hx : x < 0 ∨ nI tgs.length ≤ x
    · refine lv_tableOut C.1 C.2.1 d9 ?_ hdf (hX _ _ _ _ (h2 hx) H locs arr hH hl)
      rcases hx with hx | hx
      · exact Or.inl (Int32.lt_iff_toInt_lt.mp hx)
      · have := Int32.le_iff_toInt_le.mp hx
        rw [nI_toInt hl0] at this
        exact Or.inr (by omega)
    · have h0 : ¬ x < 0 := fun q => hx (Or.inl q)
      obtain ⟨j, hj, rfl⟩ := nI_of h0
      have hjl : j < tgs.length := by
        rcases Nat.lt_or_ge j tgs.length with q | q
        · exact q
        · exact absurd (Or.inr (nI_le q hj)) hx
      obtain ⟨off, o1, o2⟩ := ho j hjl
      have e : ((nI j).toInt - 0).toNat = j := by rw [nI_toInt hj]; omega
      exact lv_tableIn C.1 C.2.1 d9 (by rw [nI_toInt hj]; omega) (by rw [nI_toInt hj]; omega) (by rw [e]; exact o1) o2 (hX _ _ _ _ (h1 j hjl rfl) H locs arr hH hl)
  · exact h.elim
theorem ok_ldcw (C : Cx p l R s m args c D cy base c0 z0 nL cc own) (hX : ∀ pc ls st S, X pc ls st S → Mc p l e R s m args below meth c Z D cy base c0 z0 nL pc ls st S) {index : Nat} {v : Int32} (hw : Jvm.Cond.constant own index v ∈ TW) (d9 : decode cc pc = .ok (.ldc_w index, 3)) : Ok p l e R s m args below meth c Z D cy base c0 z0 nL ks cl Q X pc (o_const (.int v) (pc + 3)) := by
  intro ls st S h H locs arr hH hl
  exact lv_ldcw C.1 C.2.1 C.2.2.2.1 (C.2.2.2.2.1 _ hw) d9 (hX _ _ _ _ h H locs arr hH hl)
theorem ok_fconst0 (C : Cx p l R s m args c D cy base c0 z0 nL cc own) (hX : ∀ pc ls st S, X pc ls st S → Mc p l e R s m args below meth c Z D cy base c0 z0 nL pc ls st S) (d9 : decode cc pc = .ok (.fconst 0, 1)) : Ok p l e R s m args below meth c Z D cy base c0 z0 nL ks cl Q X pc (o_const (.float FP.fconst0) (pc + 1)) := by
  intro ls st S h H locs arr hH hl
  exact lv_fconst0 C.1 C.2.1 d9 (hX _ _ _ _ h H locs arr hH hl)
theorem ok_castA (C : Cx p l R s m args c D cy base c0 z0 nL cc own) (hX : ∀ pc ls st S, X pc ls st S → Mc p l e R s m args below meth c Z D cy base c0 z0 nL pc ls st S) {index : Nat} (hw : Cond.classLink own index "[I" ∈ TW) (d9 : decode cc pc = .ok (.checkcast index, 3)) : Ok p l e R s m args below meth c Z D cy base c0 z0 nL ks cl Q X pc (o_castA (pc + 3)) := by
  intro ls st S h H locs arr hH hl
  unfold o_castA at h
  split at h
  · obtain ⟨ha, h17, h⟩ := h
    obtain ⟨k0, hk0⟩ := pool_get (cy := cy) ha
    exact va_castA C.1 C.2.1 C.2.2.2.1 (C.2.2.2.2.1 _ hw) hH.1 k0 (pool_int h17 hk0) (C.2.2.2.2.2.1.2 5 (cy 5, .int) rfl).2 d9 (hX _ _ _ _ h H locs arr hH hl)
  · exact h.elim
end OKC
