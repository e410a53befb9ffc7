/-! THE THROW OF NoSuchElementException, whose constructor passes its text on by another entry -/
abbrev nsX : String := "java/util/NoSuchElementException"
abbrev nsR : String := "java/lang/RuntimeException"
def nsTail (own : String) (ic : Nat) : List Cond :=
  [.methodLink own ic (Bundle.initS nsX), .instantiable nsX 6, .castable nsX nsX, .selects nsX Bundle.tFill0 Bundle.tFill0, .selects nsX Bundle.tFill Bundle.tFill,
   .lays nsX Bundle.tN "cause" "Ljava/lang/Throwable;", .lays nsX Bundle.tN "stackTrace" Bundle.steD, .lays nsX Bundle.tN "suppressedExceptions" Bundle.listD, .lays nsX Bundle.tN "detailMessage" "Ljava/lang/String;",
   .fieldLink Bundle.tN 198 Bundle.tN "backtrace" "Ljava/lang/Object;", .lays Bundle.tN Bundle.tN "backtrace" "Ljava/lang/Object;", .lays nsX Bundle.tN "backtrace" "Ljava/lang/Object;"]
def nsAll (own : String) (ic : Nat) : List Cond := Bundle.throwableAtoms ++ (Bundle.throwableSAtoms ++ (Bundle.passSAtoms nsX nsR 13 prog_37_method_4_code ++ (Bundle.chainSAtoms nsR ["java/lang/Exception"] ++ nsTail own ic)))
def thr_NL (own : String) (ic : Nat) : List Cond := (nsAll own ic).filter vx_no
theorem thr_N : ∀ w ∈ thr_NL "TrialConverter" 278, w ∈ TW ∨ (w ∈ TN ∧ w.onTables = true) := thr_in (by decide +kernel) (by decide +kernel)
theorem ns_ot {w : Cond} (h : w ∈ TW) : vx_ot w = true := by
  show (w.onTables || goodWord w) = true
  rw [TW_good h, Bool.or_true]
section NSC
variable {p : Program} {l : Launch} {e : Env} {R : Room} {s : State} {m₀ : MethodId} {args : Array Value} {below : List Frame} {meth : Method} {c : Code} {V : State} {locs : List Loc} {cells slots : Nat}
theorem ns_ctor (Y : Stand p l e R s m₀ args below meth c V locs cells slots) (hexec : p.tables.exec = Jvm.exec) (htr : e.platform.stackTraces = false) {own : String} {ic : Nat} (hown : s.vm.findClass own = some m₀.cls)
    (hw : ∀ w ∈ nsAll own ic, w.before args s = true) (hrU : (Cond.isRef (.static Bundle.tN "UNASSIGNED_STACK" Bundle.steD)).before args s = true) (hrN : (Cond.isRef (.static Bundle.tN "SUPPRESSED_SENTINEL" Bundle.listD)).before args s = true)
    (hlocs : ∀ x ∈ locs, ∀ cell, s.heap[x.base]? = some cell → cell.vm.isStatics = false) {a : Addr} {k0 : ClassId} {K0 : Class} (hf0 : s.vm.findClass nsX = some k0) (hk0 : s.vm.classes[k0]? = some K0) (ha : V.heap[a]? = some (freshCell k0 K0)) (hge : s.heap.size ≤ a)
    {sa : Addr} {g : JFrame} (hg : g.method = m₀) (hsz : g.locals.size = c.maxLocals) (hlk : g.locked = none) (hen : g.entered = []) {rest : List Value} (hst : g.stack = .ref sa :: .ref a :: .ref a :: rest)
    (dA : decode c.code g.pc = .ok (.invokespecial ic, 3)) (dB : decode c.code (g.pc + 3) = .ok (.athrow, 1)) (hcov : ∀ x ∈ c.exceptionTable.toList, covers x (g.pc + 3) = false)
    (hRf : 5 < R.frames) (hRl : 2 * g.monitorRoom + ((Value.ref a :: rest).map fun v => v.category).sum + 81 ≤ R.locals) (hlocks : meth.locks = false) :
    ∃ U : State, Steps p.tables e below (V.setTop g) U ∧ U.status = .running ∧ Ended U below (.threw a) ∧ s.WarmedH U.vm ∧ s.sameButNew ({ U with vm := s.vm } : State) locs cells slots ∧ ∃ ce, U.heap[a]? = some ce ∧ s.vm.findClass nsX = some ce.cls ∧ ce.vm = .none := by
  have hp1 : e.platform.frameOwnsMonitors = true := by rw [Y.admits.platform]
  have hp2 : e.platform.finalization = false := by rw [Y.admits.platform]
  have hp3 : e.platform.magicAccessors = ({} : Platform).magicAccessors := by rw [Y.admits.platform]
  have hA : ∀ w ∈ Bundle.throwableAtoms, w.before args s = true := fun w h => hw w (List.mem_append_left _ h)
  have hB : ∀ w ∈ Bundle.throwableSAtoms, w.before args s = true := fun w h => hw w (List.mem_append_right _ (List.mem_append_left _ h))
  have hC : ∀ w ∈ Bundle.passSAtoms nsX nsR 13 prog_37_method_4_code, w.before args s = true := fun w h => hw w (List.mem_append_right _ (List.mem_append_right _ (List.mem_append_left _ h)))
  have hD : ∀ w ∈ Bundle.chainSAtoms nsR ["java/lang/Exception"], w.before args s = true := fun w h => hw w (List.mem_append_right _ (List.mem_append_right _ (List.mem_append_right _ (List.mem_append_left _ h))))
  have hE : ∀ w ∈ nsTail own ic, w.before args s = true := fun w h => hw w (List.mem_append_right _ (List.mem_append_right _ (List.mem_append_right _ (List.mem_append_right _ h))))
  obtain ⟨T, Z0, L, -, T0⟩ := ThrowableC.of_atoms (args := args) hp1 hp2 hp3 hA
  obtain ⟨Zi, M, LZ, LM, hnZ⟩ := Init0T.ofS_atoms (args := args) hp3 L T0 hB
  obtain ⟨PR, Pr, hlen, LR, hLr, hPRm, hPRs, hPr⟩ := Bundle.chainS (args := args) hp3 hnZ ["java/lang/Exception"] nsR (by decide +kernel) (by decide +kernel) hD
  obtain ⟨PN, LN, hPNm, hPNs⟩ := PassC.ofS_atoms (args := args) (s := s) hp3 (X := nsX) (Y := nsR) (index := 13) (bytes := prog_37_method_4_code) (by decide +kernel) (by decide) (by decide +kernel) (by decide +kernel) (by decide +kernel) (by decide +kernel) hC
  have hlk9 : PN.sup = PR.m := Option.some.inj (hPNs.symm.trans hPRm)
  have hfN : s.vm.findClass nsX = some PN.m.cls := findClass_of_methodNamed hPNm
  cases Option.some.inj (hf0.symm.trans hfN)
  obtain ⟨c1, K1, hc1, hk1, hord, -, -, -⟩ := Cond.instantiable_spec (hE (.instantiable nsX 6) (by simp [nsTail]))
  cases Option.some.inj (hc1.symm.trans hfN)
  cases Option.some.inj (hk0.symm.trans hk1)
  have hs0 : selectMethod e.platform s.vm PN.m.cls T.fill0 = .method T.fill0 := by
    obtain ⟨c2, r2, m2, q1, q2, q3, q4, -⟩ := Cond.selects_spec (hE (.selects nsX Bundle.tFill0 Bundle.tFill0) (by simp [nsTail]))
    cases Option.some.inj (q1.symm.trans hfN)
    cases Option.some.inj (q2.symm.trans (State.methodFound?_of_named T0.fill0 (by decide)))
    cases Option.some.inj (q3.symm.trans T0.fill0)
    rw [Launch.admits_selectMethod Y.admits]
    exact q4
  have hs1 : selectMethod e.platform s.vm PN.m.cls T.fill = .method T.fill := by
    obtain ⟨c2, r2, m2, q1, q2, q3, q4, -⟩ := Cond.selects_spec (hE (.selects nsX Bundle.tFill Bundle.tFill) (by simp [nsTail]))
    cases Option.some.inj (q1.symm.trans hfN)
    cases Option.some.inj (q2.symm.trans (State.methodFound?_of_named T0.fill (by decide)))
    cases Option.some.inj (q3.symm.trans T0.fill)
    rw [Launch.admits_selectMethod Y.admits]
    exact q4
  obtain ⟨ceS, hceS, hisS⟩ := T0.statics
  obtain ⟨u0, hu0⟩ := Cond.staticRefV T0.unassigned L.unassignedStatic L.statics hceS hisS hrU
  obtain ⟨sn, hsn⟩ := Cond.staticRefV T0.sentinel L.sentinelStatic L.statics hceS hisS hrN
  obtain ⟨ci9, i9, fB, z1, z2, z3, z4, -, z5, z6, hffB⟩ := Cond.ownField (t := .object "java/lang/Object") T0.found L.cls (by decide +kernel) (hE (.fieldLink Bundle.tN 198 Bundle.tN "backtrace" "Ljava/lang/Object;") (by simp [nsTail])) (hE (.lays Bundle.tN Bundle.tN "backtrace" "Ljava/lang/Object;") (by simp [nsTail])) e.platform hp3
  obtain ⟨ceV, hceV, heV, -, hkeep⟩ := Y.same.2.2.2.2.2 T.aS ceS hceS
  have hceW : V.heap[T.aS]? = some ceV := hceV
  have hnl : ∀ i, (⟨T.aS, i⟩ : Loc) ∉ locs := fun i hm => by
    have h9 := hlocs _ hm ceS hceS
    rw [hisS] at h9
    cases h9
  have hkn : ceV.vm ≠ .unknown := by
    rw [heV]
    intro hu
    rw [show ceS.vm = .unknown from hu] at hisS
    cases hisS
  have hne : T.aS ≠ a := Nat.ne_of_lt (Nat.lt_of_lt_of_le (Array.getElem?_eq_some_iff.mp hceS).1 hge)
  obtain ⟨iM, hffM⟩ := T0.msg
  obtain ⟨t1, d1, x1, y1⟩ := Cond.laysAt hfN hk1 T0.cause (hE (.lays nsX Bundle.tN "cause" "Ljava/lang/Throwable;") (by simp [nsTail]))
  obtain ⟨t2, d2, x2, y2⟩ := Cond.laysAt hfN hk1 T0.stack (hE (.lays nsX Bundle.tN "stackTrace" Bundle.steD) (by simp [nsTail]))
  obtain ⟨t3, d3, x3, y3⟩ := Cond.laysAt hfN hk1 T0.supp (hE (.lays nsX Bundle.tN "suppressedExceptions" Bundle.listD) (by simp [nsTail]))
  obtain ⟨t4, d4, x4, y4⟩ := Cond.laysAt hfN hk1 hffM (hE (.lays nsX Bundle.tN "detailMessage" "Ljava/lang/String;") (by simp [nsTail]))
  obtain ⟨t5, d5, x5, y5⟩ := Cond.laysAt hfN hk1 hffB (hE (.lays nsX Bundle.tN "backtrace" "Ljava/lang/Object;") (by simp [nsTail]))
  have n1 := Cond.laysApart x5 x1 y5 y1 (by rw [z5, T0.causeName]; decide)
  have n2 := Cond.laysApart x5 x2 y5 y2 (by rw [z5, T0.stackName]; decide)
  have n3 := Cond.laysApart x5 x3 y5 y3 (by rw [z5, T0.suppName]; decide)
  have hskip : SkipFacts T e.platform s (fun u => u) u0 ((preparedCellV T.toThrowableT (freshCell PN.m.cls K0) a u0 sn).withEntry V.cur) := by
    refine ⟨{ ci198 := ci9, i198 := i9, fBack := fB }, ⟨z1, z2, z3, z4⟩, ?_, fun _ _ => rfl⟩
    have h9 := fresh_default (c := PN.m.cls) t5
    rw [z6] at h9
    simpa [preparedCellV, Cell.setSlot, Cell.withEntry, Array.getElem?_setIfInBounds, n1, n2, n3, n1.symm, n2.symm, n3.symm, defaultValue] using h9
  obtain ⟨tm, mC, cdC, kC, vm1, hnC, -, -, -, -, -, -, -, hW1, st1⟩ := Steps.initColdS (tb := p.tables) (e := e) (below := below) (s := s) (U := V) Y.here hexec Y.warmed hp3 hown (t := Bundle.initS nsX) rfl rfl (by decide)
    (hE (.methodLink own ic (Bundle.initS nsX)) (by simp [nsTail])) (hC (.instanceMethod (Bundle.initS nsX)) (by simp [Bundle.passSAtoms])) (bytes := prog_37_method_4_code) (maxL := 2) (hC (.code (Bundle.initS nsX) prog_37_method_4_code 2 none) (by simp [Bundle.passSAtoms]))
    (f := g) hg (a := a) (msg := .ref sa) (rest := .ref a :: rest) hst dA
  cases Option.some.inj (hnC.symm.trans hPNm)
  have Y1 := Y.noted hW1
  obtain ⟨vm2, Y2, st2⟩ := Y1.ctorMessageOffV hexec (g := { g with stack := .ref a :: rest }) hg hsz T L Zi LZ M LM (PN :: PR :: Pr)
    (fun P hP => by
      rcases List.mem_cons.mp hP with rfl | hP
      · exact LN
      · rcases List.mem_cons.mp hP with rfl | hP
        · exact LR
        · exact hLr P hP) ⟨hlk9, hPRs, hPr⟩ (u0 := u0) (sen := sn) (self := a) (msg := .ref sa) rfl (cell := freshCell PN.m.cls K0) (cellS := ceV)
    ha (fun _ => by simp) (by simp) rfl rfl hs0 hs1 hceW hne hkn (by rw [hkeep _ (hnl _)]; exact hu0) (by rw [hkeep _ (hnl _)]; exact hsn)
    (Takes.of_laid hk1 hord t1 (by rw [T0.causeType]; rfl)) (Takes.of_laid hk1 hord t2 (by rw [T0.stackType]; exact fits_refV_array _ u0)) (Takes.of_laid hk1 hord t3 (by rw [T0.suppType]; exact fits_refV_object _ sn))
    (Takes.of_laid hk1 hord t4 (by rw [T0.msgType]; exact fits_refV_object _ ⟨.ref sa, rfl⟩)) T0.objLocals hskip htr [] dA
    (by simp only [List.length_cons, hlen, List.length_nil]; omega) (by simp only [List.length_cons, hlen, List.length_nil]; exact hRl)
  obtain ⟨hwalk, hrun, hend, hWU, hsame⟩ := Y2.athrowLeaves hexec (g := { g with stack := .ref a :: rest, pc := g.pc + 3 }) hg hlk hen hcov (a := a) (rest := rest) rfl dB
  have hlt : a < ((V.setVm vm1).setVm vm2).heap.size := (Array.getElem?_eq_some_iff.mp ha).1
  have hU := heapAt_setCell_self (s := (V.setVm vm1).setVm vm2) (plainBareV T.toThrowableT (freshCell PN.m.cls K0) a u0 sn (.ref sa)) hlt
  refine ⟨_, st1 _ (fun acts => ?_), hrun, hend, hWU, hsame.weaken (fun y hy hlt' => ?_) (Nat.le_refl _) (Nat.le_refl _), _, hU, hfN, rfl⟩
  · rw [doInvoke_state]
    exact st2 _ hwalk
  · rcases List.mem_append.mp hy with h1 | h1
    · exact h1
    · refine (Nat.not_lt.mpr hge ?_).elim
      have hb : y.base = a := by
        simp only [List.mem_cons, List.not_mem_nil, or_false] at h1
        rcases h1 with rfl | rfl | rfl | rfl | rfl <;> rfl
      rw [hb] at hlt'
      exact hlt'
end NSC
section NSD
variable {p : Program} {l : Launch} {e : Env} {R : Room} {s : State} {m : MethodId} {args : Array Value} {below : List Frame} {meth : Method} {c : Code} {H : Heap} {locs : List Loc} {cells slots : Nat}
variable {mc ms : Nat} {free : Addr → Prop} {ls : Array Slot} {rest : List Value} {Qc : Array Value → State → Outcome → State → Prop} {XC : String → State → State → Prop}
theorem ns_throw {cc : ByteArray} {pc : Nat} (hexec : p.tables.exec = Jvm.exec) (hb : c.code = cc) (hl : l.stackTraces = false) {own text : String} {ik is ic sa : Nat} {A : Nat → Prop} (hown : s.vm.findClass own = some m.cls)
    (hk : (Cond.classLink own ik nsX).before args s = true) (hini : (Cond.initialized nsX).before args s = true) (hstr : vk_R own is text sa s) (hat : ∀ w ∈ thr_NL own ic, w.before args s = true)
    (hgood : ∀ w ∈ Cond.classLink own ik nsX :: Cond.initialized nsX :: thr_NL own ic, vx_ot w = true)
    (hU : vx_Zq Bundle.tN "UNASSIGNED_STACK" Bundle.steD A s s.heap) (hN : vx_Zq Bundle.tN "SUPPRESSED_SENTINEL" Bundle.listD A s s.heap) (hS : va_S A s.heap H locs) (hsz : ls.size = c.maxLocals)
    (d0 : decode cc pc = .ok (.new ik, 3)) (d3 : decode cc (pc + 3) = .ok (.dup, 1)) (d4 : decode cc (pc + 4) = .ok (.ldc_w is, 3)) (d7 : decode cc (pc + 7) = .ok (.invokespecial ic, 3)) (d10 : decode cc (pc + 10) = .ok (.athrow, 1))
    (hcov : ∀ x ∈ c.exceptionTable.toList, covers x (pc + 10) = false) (hRf : 5 < R.frames) (hRl : (rest.map fun v => v.category).sum + 82 ≤ R.locals) (hRc : cells + 1 ≤ R.cells) (hRs : slots + 6 ≤ R.slots) (hlocks : meth.locks = false)
    (hx : ∀ t : State, s.vm.Alike t.vm → H.size ≤ t.heap.size → (∀ q : Nat, q < H.size → t.heap[q]? = H[q]?) → XC nsX s t) (hf : ∀ z ∈ locs, free z.base) (hc : cells + 1 ≤ mc) (hs : slots + 6 ≤ ms) :
    W p l e R s m args below meth c H locs cells slots (vx_MQ below Qc XC args s mc ms free) (F0 m pc ls rest) := by
  intro T hT Y
  have htr : e.platform.stackTraces = false := (show e.platform.stackTraces = l.stackTraces by rw [Y.admits.platform]).trans hl
  have Y0 := vx_rebase Y (R' := { frames := R.frames, locals := R.locals, cells := 1, slots := 6 }) (Nat.le_refl _) (Nat.le_refl _) hRc hRs
  obtain ⟨s', hA⟩ : ∃ z, z = (T.setVm s.vm).setFrames (.invoking m args :: below) := ⟨_, rfl⟩
  rw [← hA] at Y0
  have hvm : s'.vm = s.vm := by rw [hA]; rfl
  have hhp : s'.heap = H := by rw [hA]; exact hT
  have hW0 : s.WarmedH s'.vm := by rw [hvm]; exact State.WarmedH.refl s
  have hU' : vx_Zq Bundle.tN "UNASSIGNED_STACK" Bundle.steD A s' s'.heap := by rw [hhp]; exact vx_Zq.moved hW0.alike (hU.kept hS.2.1)
  have hN' : vx_Zq Bundle.tN "SUPPRESSED_SENTINEL" Bundle.listD A s' s'.heap := by rw [hhp]; exact vx_Zq.moved hW0.alike (hN.kept hS.2.1)
  have hmv : ∀ w, vx_ot w = true → w.before args s = true → w.before args s' = true := fun w hg h => vx_ot_at hW0 hvm.symm hg h
  have hall : ∀ w ∈ nsAll own ic, w.before args s' = true := vx_own (fun w hw => hmv w (hgood w (List.mem_cons_of_mem _ (List.mem_cons_of_mem _ hw))) (hat w hw)) (vx_isRefq hU'.1) (vx_isRefq hN'.1) hU'.2.word hN'.2.word
  have hown' : s'.vm.findClass own = some m.cls := by rw [hvm]; exact hown
  obtain ⟨vm1, cX, kX, hfX, hkX, -, -, Y1, st1⟩ := Y0.newCold hexec (own := own) (C := nsX) (index := ik) (n := 6) hown' (hmv _ (hgood _ List.mem_cons_self) hk) (hall _ (by simp [nsAll, nsTail])) (hmv _ (hgood _ (List.mem_cons_of_mem _ List.mem_cons_self)) hini)
    (g := F0 m pc ls rest) rfl (by rw [hb]; exact d0) (Nat.le_refl _) (Nat.le_refl _)
  generalize hT1 : (T.setVm vm1).pushCell { cls := cX, slots := kX.instanceTypes.map defaultValue, vm := .none } = T1 at Y1 st1
  have hcat : (Value.ref T.heap.size).category = 1 := rfl
  have hcA : T1.heap[T.heap.size]? = some (freshCell cX kX) := by rw [← hT1]; exact State.heap_pushCell_size _ _
  have d3' : decode c.code (pc + 3) = .ok (.dup, 1) := by rw [hb]; exact d3
  have d4' : decode c.code (pc + 4) = .ok (.ldc_w is, 3) := by rw [hb]; exact d4
  have hstr' : vk_R own is text sa s' := vk_R.warm hW0 hstr
  obtain ⟨U, hsteps, hrun, hend, hW, hsame, ce, hce, hcl, hcv⟩ := ns_ctor Y1 hexec htr (own := own) (ic := ic) hown' hall (vx_isRefq hU'.1) (vx_isRefq hN'.1) (fun x hx => nomatch hx) hfX hkX hcA (by rw [hhp, hT]; exact Nat.le_refl _) (sa := sa)
    (g := { method := m, pc := pc + 7, locals := ls, stack := .ref sa :: .ref T.heap.size :: .ref T.heap.size :: rest, locked := none }) rfl hsz rfl rfl (rest := rest) rfl
    (by rw [hb]; exact d7) (by rw [hb]; exact d10) hcov hRf (by
      have : JFrame.monitorRoom { method := m, pc := pc + 7, locals := ls, stack := .ref sa :: .ref T.heap.size :: .ref T.heap.size :: rest, locked := none } = 0 := rfl
      simp only [List.map_cons, List.sum_cons, hcat, this]
      omega) hlocks
  obtain ⟨f1, f2⟩ := vx_frame hsame
  rw [hhp] at f1 f2
  have hWs : s.WarmedH U.vm := State.WarmedH.trans hW0 hW
  rw [hvm] at hcl
  have hsm : s.sameButNew ({ U with vm := s.vm } : State) locs mc ms := by
    subst hA
    obtain ⟨e1, e2⟩ := hsame
    rw [State.setFrames_setFrames] at e1
    have h2 : (T.setVm s.vm).sameButNew ({ U with vm := s.vm } : State) [] (0 + 1) (0 + 6) := ⟨e1, e2⟩
    have h3 := Y.same.trans h2
    rw [List.append_nil] at h3
    exact h3.mono hc hs
  refine ⟨U, ?_, .threw T.heap.size, hrun, hend, Or.inr ⟨T.heap.size, rfl, nsX, ce, locs, hx U hWs.alike f1 (fun q hq => f2 q hq (fun z hz => nomatch hz)), hce, hcv, hcl, hWs, hsm, hf⟩⟩
  refine st1 _ ?_
  show Steps p.tables e below (T1.setTop { method := m, pc := pc + 3, locals := ls, stack := .ref T.heap.size :: rest, locked := none }) _
  jvm_step Y1.here [Y1.here.top, hexec, d3', Value.category]
  exact Y1.ldcStringW hexec (own := own) (text := text) (index := is) (a := sa) hown' hstr'.1 hstr'.2
    (g := { method := m, pc := pc + 4, locals := ls, stack := .ref T.heap.size :: .ref T.heap.size :: rest, locked := none }) rfl d4' _ hsteps
end NSD
section OKC
variable {p : Program} {l : Launch} {e : Env} {R : Room} {s : State} {m : MethodId} {args : Array Value} {below : List Frame} {meth : Method} {c : Code} {Z : State → Prop} {D : va_G} {cy : Nat → ClassId} {base c0 z0 nL : Nat} {cc : ByteArray} {own : String} {ks : Nat → Nat} {cl : CP} {Q : QP} {X : KP} {pc d : Nat} {S0 : M9} {xt : List ExceptionTableEntry}
theorem ok_throwN (C : Cx p l R s m args c D cy base c0 z0 nL cc own) (hX : ∀ pc ls st S, X pc ls st S → Mc p l e R s m args below meth c Z D cy base c0 z0 nL pc ls st S) (Cy0 : Cy l R s args below meth c Z ks D cy base c0 z0 d Q S0 []) {text : String} {ik is ic : Nat} (hwk : Cond.classLink own ik "java/util/NoSuchElementException" ∈ TW) (hwi : Cond.initialized "java/util/NoSuchElementException" ∈ TW) (hstr : (own, is, text) ∈ strG) (hat : ∀ w ∈ thr_NL own ic, w ∈ TW ∨ (w ∈ TN ∧ w.onTables = true))
    (d0 : decode cc pc = .ok (.new ik, 3)) (d3 : decode cc (pc + 3) = .ok (.dup, 1)) (d4 : decode cc (pc + 4) = .ok (.ldc_w is, 3)) (d6 : decode cc (pc + 7) = .ok (.invokespecial ic, 3)) (d9 : decode cc (pc + 10) = .ok (.athrow, 1)) : Ok p l e R s m args below meth c Z D cy base c0 z0 nL ks cl Q X pc (o_throw "java/util/NoSuchElementException") := by
  have hgd : ∀ w ∈ Cond.classLink own ik nsX :: Cond.initialized nsX :: thr_NL own ic, vx_ot w = true := by
    intro w hw
    rcases List.mem_cons.mp hw with rfl | hw
    · exact ns_ot hwk
    · rcases List.mem_cons.mp hw with rfl | hw
      · exact ns_ot hwi
      · rcases hat w hw with q | q
        · exact ns_ot q
        · show (w.onTables || goodWord w) = true
          rw [q.2]
          rfl
  intro ls st S h H locs arr hH hl
  obtain ⟨⟨rfl, rfl, ⟨hR1, hR2, hst, hlocks, hog⟩, rfl⟩, hex⟩ := id Cy0
  obtain ⟨hcat, h1, h2, h⟩ := h
  obtain ⟨hP, hD, hS, e1, e2, e3, e4⟩ := id hH
  obtain ⟨sa, hsa⟩ := hog.1 _ hstr
  have h8 : ((st.map fun v => v.category).sum) ≤ 8 := hcat
  refine w_mono (fun t => ?_) (ns_throw (Qc := fun _ _ _ _ => False) (XC := fun E' st t => E' = nsX ∧ H.size ≤ t.heap.size ∧ ∀ q : Nat, q < H.size → t.heap[q]? = H[q]?) (free := kA base) (mc := gC S - gC S0 + 1) (ms := gZ S - gZ S0 + 6) C.1 C.2.1 hst C.2.2.2.1 (C.2.2.2.2.1 _ hwk) (C.2.2.2.2.1 _ hwi) hsa
    (fun w hw => (hat w hw).elim (fun q => C.2.2.2.2.1 _ q) (fun q => va_Nw.use q.2 (C.2.2.2.2.2.2.2.2.2 _ q.1))) hgd hog.2.2.2.1.1 hog.2.2.2.1.2 hS (by rw [C.2.2.1]; exact hl.1) d0 d3 d4 d6 d9 (fun x hx => absurd hx (by rw [hex]; exact List.not_mem_nil))
    (by omega) (by omega) (by rw [C.2.2.2.2.2.2.2.1]; omega) (by rw [C.2.2.2.2.2.2.2.2.1]; omega) hlocks (fun t _ z1 z2 => ⟨rfl, z1, z2⟩) hS.2.2 (Nat.le_refl _) (Nat.le_refl _))
  rintro ⟨o, b1, b2, ⟨hf, -⟩ | ⟨q, rfl, E', ce', L, ⟨rfl, k1, k2⟩, g1, g2, g3, g4, g5, g6⟩⟩
  · exact hf.elim
  · have hz := hsz_of g5
    have hgc : gC (sC S 1 6) = gC S + 1 := rfl
    have hgz : gZ (sC S 1 6) = gZ S + 6 := rfl
    refine ⟨_, b1, b2, Or.inr ⟨q, rfl, nsX, ce', L, ⟨sC S 1 6, h, ?_, hD, ⟨Nat.le_trans hS.1 k1, fun a ha hA => ?_⟩, by omega, by omega, by omega, by omega, ?_, ?_⟩, g1, g2, g3, g4, g5.mono (by omega) (by omega), g6⟩⟩
    · exact hP.kept fun k x hx => k2 _ (hP k x hx).lt
    · rw [k2 a (Nat.lt_of_lt_of_le ha hS.1)]
      exact hS.2.1 a ha hA
    · have := hz.1
      have e5 : ({ t with vm := s.vm } : State).heap = t.heap := rfl
      rw [e5] at this
      omega
    · have := hz.2
      have e5 : ({ t with vm := s.vm } : State).heap = t.heap := rfl
      rw [e5] at this
      omega
end OKC
