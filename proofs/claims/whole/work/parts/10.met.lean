/-! METHODS: a table's run is a method's contract -/
/-- every instruction of method nm's table holds -/
def OkM (nm : MethodName) (cc : ByteArray) (maxL : Nat) (ret : Option FieldType) (xt : List ExceptionTableEntry) (tb : List (Nat × Op)) (nmw : Nat → MethodName × List Cond) : Prop :=
  ∀ (p : Program) (l : Launch) (e : Env) (R : Room) (s : State) (m : MethodId) (args : Array Value) (below : List Frame) (meth : Method) (c : Code) (Z : State → Prop) (D : va_G) (cy : Nat → ClassId) (base c0 z0 d : Nat) (ks : Nat → Nat) (cl : CP) (Q : QP) (X : KP) (S0 : M9),
    Cx p l R s m args c D cy base c0 z0 maxL cc nm.cls → Cy l R s args below meth c Z ks D cy base c0 z0 (d + 1) Q S0 xt → Snd l ks D cy base nmw d cl → meth.sig.returnType = ret → meth.name = nm.name →
    (∀ pc ls st S, X pc ls st S → Mc p l e R s m args below meth c Z D cy base c0 z0 maxL pc ls st S) → ∀ q ∈ tb, Ok p l e R s m args below meth c Z D cy base c0 z0 maxL ks cl Q X q.1 q.2
section MET
variable {l : Launch} {D : va_G} {cy : Nat → ClassId} {base d : Nat} {ks : Nat → Nat} {cl : CP} {Q : QP}
theorem met_body {p : Program} {e : Env} {s : State} {m : MethodId} {below : List Frame} {meth : Method} {c : Code} {S : M9} {nm : MethodName} {cc : ByteArray} {maxL : Nat} {ret : Option FieldType} {xt : List ExceptionTableEntry} {tb : List (Nat × Op)} {nmw : Nat → MethodName × List Cond} {As : List Value} (hok : OkM nm cc maxL ret xt tb nmw) (hcl : Snd l ks D cy base nmw d cl) (hst : l.stackTraces = false) (h1 : cat1 As) (h2 : As.length ≤ maxL) (h3 : gC S ≤ cCM) (h4 : gZ S ≤ cSM) (h : Run ks cl Q tb 0 (entL As maxL) [] S)
    (hx : p.tables.exec = Jvm.exec) (hb : c.code = cc) (hml : c.maxLocals = maxL) (hown : s.vm.findClass nm.cls = some m.cls) (hts : ∀ w ∈ TW, w.before As.toArray s = true) (hU : HU ks D cy base S s) (hlocks : meth.locks = false) (hr : meth.sig.returnType = ret) (hn : meth.name = nm.name) (hxt : c.exceptionTable.toList = xt) :
    W p l e (rmD (d + 1) S) s m As.toArray below meth c s.heap [] 0 0 (vx_MQ below (qcD D cy base S Q) (xcD D cy base S Q) As.toArray s (cCM - gC S) (cSM - gZ S) (kA base)) (entryFrame m As.toArray maxL) := by
  obtain ⟨hP, hD, hK, hbs, hog⟩ := hU
  have C : Cx p l (rmD (d + 1) S) s m As.toArray c D cy base (gC S) (gZ S) maxL cc nm.cls := ⟨hx, hb, hml, hown, hts, hK, hbs, rfl, rfl, hog.2.2.1.1⟩
  have Cy0 : Cy l (rmD (d + 1) S) s As.toArray below meth c (vx_MQ below (qcD D cy base S Q) (xcD D cy base S Q) As.toArray s (cCM - gC S) (cSM - gZ S) (kA base)) ks D cy base (gC S) (gZ S) (d + 1) Q S xt := ⟨⟨rfl, rfl, ⟨Nat.le_refl _, Nat.le_refl _, hst, hlocks, hog⟩, rfl⟩, hxt⟩
  have hall := hok p l e (rmD (d + 1) S) s m As.toArray below meth c _ D cy base (gC S) (gZ S) d ks cl Q (Mc p l e (rmD (d + 1) S) s m As.toArray below meth c (vx_MQ below (qcD D cy base S Q) (xcD D cy base S Q) As.toArray s (cCM - gC S) (cSM - gZ S) (kA base)) D cy base (gC S) (gZ S) maxL) S C Cy0 hcl hr hn (fun _ _ _ _ q => q)
  have hM := h _ (fun q hq ls st S' hh => hall q hq ls st S' hh)
  rw [lg_entry_eq]
  have := hM s.heap [] _ ⟨hP, hD, va_S.rf, Nat.le_refl _, Nat.le_refl _, h3, h4⟩ (lh_entry h1 h2)
  exact W.cs (by omega) (by omega) this
theorem mt_ofW {y : MethodName} {ws ws' : List Cond} {rm : Room} {Pc : Array Value → State → Prop} {Qc : Array Value → State → Outcome → State → Prop} {XC : String → State → State → Prop} {mc ms : Nat} {free : Addr → Prop} {cc : ByteArray} {maxL : Nat} {ret : Option FieldType} (hy : plainFor y = true) (hw : ws = Cond.code y cc maxL ret :: ws')
    (body : ∀ p e s m args below meth c s₁, BodyLoose p l y (headSpec ws rm) cc maxL ret e s m args below meth c s₁ → c.maxLocals = maxL → (∀ x ∈ c.exceptionTable.toList, False) → Pc args s → W p l e (headSpec ws rm).room s m args below meth c s.heap [] 0 0 (vx_MQ below Qc XC args s mc ms free) (entryFrame m args maxL)) : vx_Met l y ws rm Pc Qc XC mc ms free := by
  have hmem : Cond.code y cc maxL ret ∈ ws := hw ▸ List.mem_cons_self
  refine MetFree.of_bodySF (code := cc) (maxLocals := maxL) (ret := ret) hy (fun args s m h hn => ?_) (fun p e s m args below meth c s₁ B hml hP _ => ?_)
  · obtain ⟨meth, c, h1, h2, h3, h4, h5, h6, -, -⟩ := Cond.code_spec hn (atoms_spec (ws := ws) h _ hmem)
    exact ⟨meth, c, h1, h2, h3, h4, h5, h6⟩
  · obtain ⟨meth9, c9, h1, h2, -, -, -, -, h7, -⟩ := Cond.code_spec B.named (atoms_spec (ws := ws) B.pre _ hmem)
    cases Option.some.inj (h1.symm.trans B.method)
    cases Option.some.inj (h2.symm.trans (Stand.of_body B).code)
    obtain ⟨t, a1, o, b1, b2, b3⟩ := body p e s m args below meth c s₁ B hml (fun x hx => by rw [Array.isEmpty_iff.mp h7] at hx; cases hx) hP s₁ (by rw [B.state]; rfl) (Stand.of_body B)
    exact ⟨t, o, a1, b1, b2, b3⟩
theorem met_of {S : M9} {nm : MethodName} {cc : ByteArray} {maxL : Nat} {ret : Option FieldType} {tb : List (Nat × Op)} {nmw : Nat → MethodName × List Cond} {As : List Value} (hp : plainFor nm = true) (hok : OkM nm cc maxL ret [] tb nmw) (hcl : Snd l ks D cy base nmw d cl) (hst : l.stackTraces = false) (h1 : cat1 As) (h2 : As.length ≤ maxL) (h3 : gC S ≤ cCM) (h4 : gZ S ≤ cSM) (h : Run ks cl Q tb 0 (entL As maxL) [] S) :
    MOK l ks D cy base nm (Cond.code nm cc maxL ret :: TW) (d + 1) As S Q := by
  refine mt_ofW (cc := cc) (maxL := maxL) (ret := ret) hp rfl ?_
  intro p e s m args below meth c s₁ B hml hex hPc
  obtain ⟨rfl, hU⟩ := hPc
  have hts := atoms_spec (ws := Cond.code nm cc maxL ret :: TW) B.pre
  exact met_body hok hcl hst h1 h2 h3 h4 h B.exec B.bytes hml (findClass_of_methodNamed B.named) (fun w hw => hts w (List.mem_cons_of_mem _ hw)) hU B.notSynchronized B.returns (name_of_methodNamed B.named B.method).1 (List.eq_nil_iff_forall_not_mem.mpr hex)
theorem met_ofH {S : M9} {nm : MethodName} {cc : ByteArray} {maxL : Nat} {ret : Option FieldType} {hh : List (Nat × Nat × Nat × Nat)} {tb : List (Nat × Op)} {nmw : Nat → MethodName × List Cond} {As : List Value} (hp : plainName nm.cls = true) (hok : OkM nm cc maxL ret (tableOf hh) tb nmw) (hcl : Snd l ks D cy base nmw d cl) (hst : l.stackTraces = false) (h1 : cat1 As) (h2 : As.length ≤ maxL) (h3 : gC S ≤ cCM) (h4 : gZ S ≤ cSM) (h : Run ks cl Q tb 0 (entL As maxL) [] S) :
    MOK l ks D cy base nm (Cond.codeWith nm cc maxL ret hh :: TW) (d + 1) As S Q := by
  refine vx_ofWH (cc := cc) (maxL := maxL) (ret := ret) (hh := hh) hp rfl ?_
  intro p e s m args below meth c s₁ B hml hPc
  obtain ⟨rfl, hU⟩ := hPc
  have hts := atoms_spec (ws := Cond.codeWith nm cc maxL ret hh :: TW) B.pre
  exact met_body hok hcl hst h1 h2 h3 h4 h B.exec B.bytes hml (findClass_of_methodNamed B.named) (fun w hw => hts w (List.mem_cons_of_mem _ hw)) hU B.notSynchronized B.returns (name_of_methodNamed B.named B.method).1 (vx_table (x := nm) B (hts _ List.mem_cons_self))
end MET
/-- where a thrown class is caught: the first row of its name -/
def hdl : List (String × Nat) → String → Option Nat
  | [], _ => none
  | q :: r, E => if q.1 = E then some q.2 else hdl r E
def behH (hs : List (String × Nat)) (K : KP) (nx : Nat) (ls : List (Option Value)) (rest : List Value) : QP := fun o S' => match o with
  | .inl none => K nx ls rest S'
  | .inl (some v) => K nx ls (v :: rest) S'
  | .inr E => ∃ h, hdl hs E = some h ∧ ∀ q, K h ls [.ref q] S'
/-- a call whose throws are caught here -/
def o_callvH (y n t : Nat) (hs : List (String × Nat)) (nx : Nat) : Op := fun _ cl _ K ls st S => catS (st.drop n) ≤ 8 ∧ (∃ b r, (st.take n).reverse = .ref b :: r ∧ r.length + 1 = n ∧ b ∈ gL S ∧ gK S b = t) ∧ cl y (st.take n).reverse S (behH hs K nx ls (st.drop n))
section HND
variable {p : Program} {l : Launch} {e : Env} {R : Room} {s : State} {m : MethodId} {args : Array Value} {below : List Frame} {meth : Method} {c : Code} {Z : State → Prop} {D : va_G} {cy : Nat → ClassId} {base c0 z0 nL : Nat} {cc : ByteArray} {own : String} {ks : Nat → Nat} {cl : CP} {Q : QP} {X : KP} {pc d : Nat} {S0 : M9} {xt : List ExceptionTableEntry}
theorem ok_callvH (C : Cx p l R s m args c D cy base c0 z0 nL cc own) (hX : ∀ pc ls st S, X pc ls st S → Mc p l e R s m args below meth c Z D cy base c0 z0 nL pc ls st S) (Cy0 : Cy l R s args below meth c Z ks D cy base c0 z0 (d + 1) Q S0 xt) {nmw : Nat → MethodName × List Cond} (hcl : Snd l ks D cy base nmw d cl) {y n t index maxL N : Nat} {nm : MethodName} {bytes : ByteArray} {ret : Option FieldType} {T : u_T} {hs : List (String × Nat)} (hy : nmw y = (nm, Cond.code nm bytes maxL ret :: TW)) (hc : kCl[t]? = some (nm.cls, T, N)) (hw0 : Cond.code nm bytes maxL ret ∈ TW) (hw1 : Cond.methodLink own index nm ∈ TW) (hw2 : Cond.instanceMethod nm ∈ TW) (hw3 : Cond.selects nm.cls nm nm ∈ TW) (hw4 : Cond.initialized nm.cls ∈ TW)
    (hd : nm.cls ≠ "java/lang/invoke/MethodHandle" ∧ nm.cls ≠ "java/lang/invoke/VarHandle" ∧ (parseMethodDescriptor nm.desc).map (fun d => d.parameters.length + 1) = some n) (hmL : maxL ≤ 100) (d9 : decode cc pc = .ok (.invokevirtual index, 3))
    (hcat : ∀ E h, hdl hs E = some h → ∃ pre x suf, xt = pre ++ x :: suf ∧ x.handlerPc = h ∧ covers x pc = true ∧ x.catchType ≠ 0 ∧ Cond.classLink own x.catchType E ∈ TW ∧ Cond.castable E E ∈ TN ∧ ∀ z ∈ pre, z.catchType ≠ 0 ∧ ∃ nm', Cond.classLink own z.catchType nm' ∈ TW ∧ (E, nm') ∈ ncG) : Ok p l e R s m args below meth c Z D cy base c0 z0 nL ks cl Q X pc (o_callvH y n t hs (pc + 3)) := by
  intro ls st S h H locs arr hH hl
  obtain ⟨⟨rfl, rfl, ⟨hR1, hR2, -, hlocks, hog⟩, rfl⟩, hex⟩ := id Cy0
  obtain ⟨hcat8, ⟨b, r, hst, hn, hb, hbk⟩, h⟩ := h
  obtain ⟨e1, e2, e3, e4⟩ := hH.2.2.2
  have hm := hcl y _ S _ e3 e4 h
  rw [hst] at hm
  unfold MOK at hm
  rw [hy] at hm
  have ht : t < 12 := (List.getElem?_eq_some_iff.mp hc).1
  obtain ⟨k0, hk0⟩ := pool_get (cy := cy) hb
  rw [cell_obj hbk ht] at hk0
  have hT : GoodIn TW (wsV own index nm.cls nm (Cond.code nm bytes maxL ret :: TW)) := goodTW (by
    intro w hw
    simp only [wsV, List.cons_append, List.nil_append, List.mem_cons] at hw
    rcases hw with rfl | rfl | rfl | rfl | rfl | hw
    · exact hw1
    · exact hw2
    · exact hw3
    · exact hw4
    · exact hw0
    · exact hw)
  have hrun := vx_runV (p := p) (e := e) (R := R) (s := s) (m := m) (args := args) (below := below) (meth := meth) (c := c) (H := H) (locs := locs) (cells := gC S - gC S0) (slots := gZ S - gZ S0) (As := r) (b := b) (C := nm.cls) (rest := st.drop n) (n := r.length) (Ts := TW) (own := own) (g := F0 m pc arr st) (cc := cc) (nL := nL) (index := index) (bytes := bytes) (maxL := maxL) (ret := ret)
    ⟨C.1, C.2.1, C.2.2.1, C.2.2.2.1, C.2.2.2.2.1⟩ hm (cwV r.length C.2.2.2.2.1 hT rfl rfl rfl ⟨rfl, hd.1, hd.2.1, par_of hd.2.2 hn⟩ ⟨by show 10 * (d + 1) + 1 ≤ _; omega, by show 8 + (maxL + 11) + 200 * (d + 1) ≤ _; omega⟩)
    ⟨pcD_blind, va_recv C.2.2.2.2.2.1 hH.1 hc hk0, fun U hU hW => ⟨rfl, hu_of C hog hH hU hW⟩⟩ rfl rfl (by show arr.size = nL; exact hl.1) (stk hst) (lv_room hcat8) d9 ⟨by rw [C.2.2.2.2.2.2.2.1]; omega, by rw [C.2.2.2.2.2.2.2.2.1]; omega⟩
  refine mc_call hrun hH.2.2.1 (fun E ce q9 S' H1 locs1 hq hP1 hD1 hS1 g1 g2 g3 g4 hce hcv hcl9 => ?_) (fun v S' H1 locs1 hq hP1 hD1 hS1 g1 g2 g3 g4 => ?_)
  · refine vx_widen (k := gC S' - gC S0) (n := gZ S' - gZ S0) (by omega) (by omega) ?_
    obtain ⟨h9, hh, hk⟩ := hq
    obtain ⟨pre, x, suf, hsp, rfl, hcov, hct, hln, hca, hpre⟩ := hcat E h9 hh
    refine vx_catch C.2.2.2.1 pre x suf (hex.trans hsp) (fun z hz => Or.inr ⟨(hpre z hz).1, ?_⟩) hcov hct (C.2.2.2.2.1 _ hln) (va_Nw.use rfl (C.2.2.2.2.2.2.2.2.2 _ hca)) hce hcv hcl9 ?_
    · obtain ⟨nm', z1, z2⟩ := (hpre z hz).2
      exact ⟨nm', C.2.2.2.2.1 _ z1, hog.2.2.1.2 _ z2⟩
    · exact hX _ _ _ _ (hk q9) H1 locs1 arr ⟨hP1, hD1, hS1, by omega, by omega, g3, g4⟩ hl
  · refine W.cs (cells' := gC S' - gC S0) (slots' := gZ S' - gZ S0) (by omega) (by omega) ?_
    cases v with
    | none => exact hX _ _ _ _ hq H1 locs1 arr ⟨hP1, hD1, hS1, by omega, by omega, g3, g4⟩ hl
    | some v => exact hX _ _ _ _ hq H1 locs1 arr ⟨hP1, hD1, hS1, by omega, by omega, g3, g4⟩ hl
end HND
/-- a row of the methods' table: name, bytes, locals, answer, handlers, its instructions -/
abbrev MR : Type := MethodName × ByteArray × Nat × Option FieldType × List (Nat × Nat × Nat × Nat) × List (Nat × Op)
def mr0 : MR := (⟨"", "", ""⟩, ⟨#[]⟩, 0, none, [], [])
def mrW (q : MR) : MethodName × List Cond := (q.1, (if q.2.2.2.2.1 = [] then Cond.code q.1 q.2.1 q.2.2.1 q.2.2.2.1 else Cond.codeWith q.1 q.2.1 q.2.2.1 q.2.2.2.1 q.2.2.2.2.1) :: TW)
theorem mrW_nil {q : MR} (h : q.2.2.2.2.1 = []) : mrW q = (q.1, Cond.code q.1 q.2.1 q.2.2.1 q.2.2.2.1 :: TW) := by unfold mrW; rw [if_pos h]
theorem mrW_hh {q : MR} (h : ¬ q.2.2.2.2.1 = []) : mrW q = (q.1, Cond.codeWith q.1 q.2.1 q.2.2.1 q.2.2.2.1 q.2.2.2.2.1 :: TW) := by unfold mrW; rw [if_neg h]
/-- the weakest ahead of a call of method y that may go d deep -/
def WPM (mt : List MR) (ks : Nat → Nat) : Nat → CP
  | 0 => fun _ _ _ _ => False
  | d + 1 => fun y As S Q => cat1 As ∧ As.length ≤ (mt.getD y mr0).2.2.1 ∧ Run ks (WPM mt ks d) Q (mt.getD y mr0).2.2.2.2.2 0 (entL As (mt.getD y mr0).2.2.1) [] S
/-- a row's method keeps its contract -/
def OkR (mt : List MR) (q : MR) : Prop := plainFor q.1 = true ∧ (q.2.2.2.2.1 = [] ∨ plainName q.1.cls = true) ∧ OkM q.1 q.2.1 q.2.2.1 q.2.2.2.1 (tableOf q.2.2.2.2.1) q.2.2.2.2.2 (fun y => mrW (mt.getD y mr0))
/-- EVERY METHOD KEEPS ITS CONTRACT, at every depth -/
theorem snd_all {mt : List MR} (hall : ∀ q ∈ mt, OkR mt q) (l : Launch) (ks : Nat → Nat) (D : va_G) (cy : Nat → ClassId) (base : Nat) (hst : l.stackTraces = false) : ∀ d, Snd l ks D cy base (fun y => mrW (mt.getD y mr0)) d (WPM mt ks d) := by
  intro d
  induction d with
  | zero => intro y As S Q _ _ h; exact h.elim
  | succ d ih =>
    intro y As S Q h3 h4 h
    obtain ⟨h1, h2, h⟩ := h
    by_cases hy : y < mt.length
    · have hq : mt.getD y mr0 ∈ mt := by rw [List.getD, List.getElem?_eq_getElem hy]; exact List.getElem_mem hy
      obtain ⟨hp, hp2, hok⟩ := hall _ hq
      show MOK l ks D cy base (mrW (mt.getD y mr0)).1 (mrW (mt.getD y mr0)).2 (d + 1) As S Q
      by_cases hh : (mt.getD y mr0).2.2.2.2.1 = []
      · rw [mrW_nil hh]
        rw [hh] at hok
        exact met_of hp hok ih hst h1 h2 h3 h4 h
      · rw [mrW_hh hh]
        exact met_ofH (hp2.resolve_left hh) hok ih hst h1 h2 h3 h4 h
    · have e : mt.getD y mr0 = mr0 := by simp [List.getD, List.getElem?_eq_none (Nat.le_of_not_lt hy)]
      rw [e] at h
      exact (h (fun _ _ _ _ => False) (fun q hq => absurd hq List.not_mem_nil)).elim
