/-! CALLS, RETURNS, THROWS -/
theorem goodTW {L : List Cond} (h : ∀ w ∈ L, w ∈ TW) : GoodIn TW L := fun w hw => ⟨h w hw, good_of_word (TW_good (h w hw))⟩
def hsz (H : Heap) : Nat := (H.toList.map (·.slots.size)).sum
theorem hsz_of {s t : State} {L : List Loc} {c z : Nat} (h : s.sameButNew t L c z) : t.heap.size ≤ s.heap.size + c ∧ hsz t.heap ≤ hsz s.heap + z := by
  obtain ⟨-, h1, h2, -, h4, h5⟩ := h
  refine ⟨h2, ?_⟩
  have e : (t.heap.toList.take s.heap.size).map (·.slots.size) = s.heap.toList.map (·.slots.size) := by
    refine List.ext_getElem? fun i => ?_
    rw [List.getElem?_map, List.getElem?_map, List.getElem?_take]
    by_cases hi : i < s.heap.size
    · rw [if_pos hi]
      obtain ⟨c', g1, -, g3, -⟩ := h5 i _ (Array.getElem?_eq_getElem hi)
      rw [Array.getElem?_toList, Array.getElem?_toList, g1, Array.getElem?_eq_getElem hi]
      simp [g3]
    · rw [if_neg hi, Array.getElem?_toList, Array.getElem?_eq_none (by omega)]
  have e2 : t.heap.toList = t.heap.toList.take s.heap.size ++ t.heap.toList.drop s.heap.size := (List.take_append_drop _ _).symm
  unfold hsz
  rw [e2, List.map_append, e, List.sum_append]
  omega
theorem nw_warm {w : Cond} {s U : State} (hN : isN w = true) (hW : s.WarmedH U.vm) (h : va_Nw w s) : va_Nw w U := by
  match w, hN, h with
  | .castable _ _, _, h => exact va_Nw.warmC hW h
  | .declares _, _, h => exact va_Nw.warmD hW h
  | .methodLinkNest _ _ _ _, _, h => exact va_Nw.warmM hW h
  | .arrayOver (.object C), _, h => exact va_AO.moved (C := C) hW.alike h
def strG : List (String × Nat × String) := [("TrialConverter", 77, "the text buffer is full"), ("TrialConverter", 389, "an argument is out of its range"), ("TrialConverter", 154, "no such number of the converter"), ("TrialConverter", 159, "no such comparator"), ("TrialConverter", 171, "no such number of a comparator"), ("TrialConverter", 387, "no such weight"), ("TrialConverter", 195, "no such number of a weight"), ("TrialConverter", 204, "the weights behind it are too small"), ("TrialConverter", 385, "no such conversion is kept"), ("TrialConverter", 252, "no such number of a conversion"), ("TrialConverter", 260, "no such number of a trial"), ("TrialConverter", 271, "not so many codes were seen"), ("TrialConverter", 276, "no code was seen"), ("TrialConverter", 295, "not so many codes are missing"), ("TrialConverter", 330, "no input has such a code"), ("TrialConverter", 355, "no such byte was written"), ("TrialConverter", 362, "there is no change to undo"), ("TrialConverter", 380, "no such slot"), ("TrialConverter", 375, "no table for so many weights was saved there")]
def kstG : List (String × Nat × String × Nat) := [("TrialConverter$Reader", 57, "comparator", 0), ("TrialConverter$Reader", 89, "weight", 1), ("TrialConverter$Reader", 101, "seed", 2), ("TrialConverterModel", 142, "comparator", 0), ("TrialConverterModel", 151, "weight", 1), ("TrialConverterModel", 156, "seed", 2)]
def ncG : List (String × String) := [("java/lang/IllegalArgumentException", "java/lang/IndexOutOfBoundsException"), ("java/lang/IllegalStateException", "java/lang/IndexOutOfBoundsException"), ("java/lang/IllegalStateException", "java/lang/IllegalArgumentException")]
/-- what the old heap holds, and nothing writes -/
def OG (ks : Nat → Nat) (A : Nat → Prop) (U : State) (H : Heap) : Prop :=
  (∀ q ∈ strG, ∃ a, vk_R q.1 q.2.1 q.2.2 a U) ∧ (∀ q ∈ kstG, vk_R q.1 q.2.1 q.2.2.1 (ks q.2.2.2) U) ∧ ((∀ w ∈ TN, va_Nw w U) ∧ ∀ q ∈ ncG, va_Nc q.1 q.2 U) ∧
  (vx_Zq Bundle.tN "UNASSIGNED_STACK" Bundle.steD A U H ∧ vx_Zq Bundle.tN "SUPPRESSED_SENTINEL" Bundle.listD A U H) ∧
  vk_S 3 kLen kByt ks (fun i => ks (3 + i)) A U H ∧ va_Z "java/lang/String" "COMPACT_STRINGS" "Z" (.int 1) A U H ∧
  (va_Z "java/lang/Integer" "DigitTens" "[B" (.ref (ks 10)) A U H ∧ va_T .byte (ks 10) 100 (fun j => .int (nI (48 + j / 10))) A U H) ∧
  (va_Z "java/lang/Integer" "DigitOnes" "[B" (.ref (ks 11)) A U H ∧ va_T .byte (ks 11) 100 (fun j => .int (nI (48 + j % 10))) A U H) ∧
  va_Zq "jdk/internal/util/Preconditions" "SIOOBE_FORMATTER" "Ljava/util/function/BiFunction;" A U H
theorem OG.to {ks : Nat → Nat} {A : Nat → Prop} {s U : State} {H H1 : Heap} (h : OG ks A s H) (hW : s.WarmedH U.vm) (hq : ∀ a : Nat, a < H.size → ¬ A a → H1[a]? = H[a]?) : OG ks A U H1 := by
  obtain ⟨h1, h2, ⟨h3, h13⟩, ⟨h4, h5⟩, h6, h7, ⟨h8, h9⟩, ⟨h10, h11⟩, h12⟩ := h
  refine ⟨fun q hq' => ?_, fun q hq' => (h2 q hq').warm hW, ⟨fun w hw => nw_warm (List.mem_filter.mp hw).2 hW (h3 w hw), fun q hq' => va_Nc.moved hW.alike (h13 q hq')⟩, ⟨?_, ?_⟩, ?_, ?_, ⟨?_, ?_⟩, ⟨?_, ?_⟩, ?_⟩
  · obtain ⟨a, ha⟩ := h1 q hq'
    exact ⟨a, ha.warm hW⟩
  · exact vx_Zq.moved hW.alike (vx_Zq.kept h4 hq)
  · exact vx_Zq.moved hW.alike (vx_Zq.kept h5 hq)
  · exact vk_S.moved hW.alike (h6.kept hq)
  · exact va_Z.moved hW.alike (h7.kept hq)
  · exact va_Z.moved hW.alike (h8.kept hq)
  · exact va_T.moved hW.alike (h9.kept hq)
  · exact va_Z.moved hW.alike (h10.kept hq)
  · exact va_T.moved hW.alike (h11.kept hq)
  · exact va_Zq.moved hW.alike (va_Zq.kept h12 hq)
/-- the memory at a method's start -/
def HU (ks : Nat → Nat) (D : va_G) (cy : Nat → ClassId) (base : Nat) (S : M9) (U : State) : Prop :=
  va_P D kCl (pool cy S) U.heap ∧ va_D (kA base) (pool cy S) ∧ va_K D kCl (tyL cy) U ∧ base ≤ U.heap.size ∧ OG ks (kA base) U U.heap
def pcD (ks : Nat → Nat) (D : va_G) (cy : Nat → ClassId) (base : Nat) (As : List Value) (S : M9) : Array Value → State → Prop := fun a U => a = As.toArray ∧ HU ks D cy base S U
/-- the memory S' behind a method that was begun with S -/
def heD (D : va_G) (cy : Nat → ClassId) (base : Nat) (S S' : M9) (st t : State) : Prop :=
  va_P D kCl (pool cy S') t.heap ∧ va_D (kA base) (pool cy S') ∧ va_F (kA base) st t ∧ gC S ≤ gC S' ∧ gZ S ≤ gZ S' ∧ gC S' ≤ cCM ∧ gZ S' ≤ cSM ∧ t.heap.size ≤ st.heap.size + (gC S' - gC S) ∧ hsz t.heap ≤ hsz st.heap + (gZ S' - gZ S)
def qcD (D : va_G) (cy : Nat → ClassId) (base : Nat) (S : M9) (Q : QP) : Array Value → State → Outcome → State → Prop := fun _ st o t => ∃ r S', o = .returned r ∧ Q (.inl r) S' ∧ heD D cy base S S' st t
def xcD (D : va_G) (cy : Nat → ClassId) (base : Nat) (S : M9) (Q : QP) : String → State → State → Prop := fun E st t => ∃ S', Q (.inr E) S' ∧ heD D cy base S S' st t
/-- the room of a method that may call d deep -/
def rmD (d : Nat) (S : M9) : Room := { frames := 10 * (d + 1), cells := cCM - gC S, slots := cSM - gZ S, locals := 200 * (d + 1) }
/-- method nm's contract -/
def MOK (l : Launch) (ks : Nat → Nat) (D : va_G) (cy : Nat → ClassId) (base : Nat) (nm : MethodName) (ws : List Cond) (d : Nat) (As : List Value) (S : M9) (Q : QP) : Prop :=
  vx_Met l nm ws (rmD d S) (pcD ks D cy base As S) (qcD D cy base S Q) (xcD D cy base S Q) (cCM - gC S) (cSM - gZ S) (kA base)
theorem pcD_blind {ks : Nat → Nat} {D : va_G} {cy : Nat → ClassId} {base : Nat} {As : List Value} {S : M9} : FrameBlind (pcD ks D cy base As S) := by
  intro a U g mk ⟨h1, h2, h3, h4, h5, h6⟩
  have hv : (U.calling g mk a).vm = U.vm := rfl
  have hA : U.vm.Alike (U.calling g mk a).vm := by rw [hv]; exact Vm.Alike.refl U.vm
  have hW : U.WarmedH (U.calling g mk a).vm := by rw [hv]; exact State.WarmedH.refl U
  exact ⟨h1, h2, h3, va_K.moved (U := U.calling g mk a) hA h4, h5, h6.to hW fun _ _ _ => rfl⟩
section CALLS
variable {p : Program} {l : Launch} {e : Env} {R : Room} {s : State} {m : MethodId} {args : Array Value} {below : List Frame} {meth : Method} {c : Code} {Z : State → Prop} {D : va_G} {cy : Nat → ClassId} {base c0 z0 nL : Nat} {cc : ByteArray} {own : String} {ks : Nat → Nat} {cl : CP} {Q : QP} {X : KP} {pc : Nat}
variable {H : Heap} {locs : List Loc} {cells slots mc ms : Nat}
theorem stand_tight {T : State} (X : Stand p l e R s m args below meth c T locs cells slots) {c' z' : Nat} (h1 : T.heap.size ≤ s.heap.size + c') (h2 : hsz T.heap ≤ hsz s.heap + z') : Stand p l e R s m args below meth c T locs c' z' := by
  refine { X with same := ?_ }
  obtain ⟨g1, g2, g3, g4, g5, g6⟩ := X.same
  refine ⟨g1, g2, h1, g4, ?_, g6⟩
  have e : ((T.setVm s.vm).heap.toList.take s.heap.size).map (·.slots.size) = s.heap.toList.map (·.slots.size) := by
    refine List.ext_getElem? fun i => ?_
    rw [List.getElem?_map, List.getElem?_map, List.getElem?_take]
    by_cases hi : i < s.heap.size
    · rw [if_pos hi]
      obtain ⟨c', k1, -, k3, -⟩ := g6 i _ (Array.getElem?_eq_getElem hi)
      rw [Array.getElem?_toList, Array.getElem?_toList, k1, Array.getElem?_eq_getElem hi]
      simp [k3]
    · rw [if_neg hi, Array.getElem?_toList, Array.getElem?_eq_none (by omega)]
  have e2 : (T.setVm s.vm).heap.toList = (T.setVm s.vm).heap.toList.take s.heap.size ++ (T.setVm s.vm).heap.toList.drop s.heap.size := (List.take_append_drop _ _).symm
  have e3 : hsz T.heap = ((T.setVm s.vm).heap.toList.map (·.slots.size)).sum := rfl
  rw [e2, List.map_append, e, List.sum_append] at e3
  unfold hsz at h2 e3
  omega
/-- what a stand says of the heap's size -/
theorem stand_sz {T : State} (X : Stand p l e R s m args below meth c T locs cells slots) : T.heap.size ≤ s.heap.size + cells ∧ hsz T.heap ≤ hsz s.heap + slots := by
  show (T.setVm s.vm).heap.size ≤ s.heap.size + cells ∧ hsz (T.setVm s.vm).heap ≤ hsz s.heap + slots
  exact hsz_of X.same
theorem w_mono {Z1 Z2 : State → Prop} {g : JFrame} (h : ∀ t, Z1 t → Z2 t) (k : W p l e R s m args below meth c H locs cells slots Z1 g) : W p l e R s m args below meth c H locs cells slots Z2 g := by
  intro T hT X
  obtain ⟨t, a1, b1⟩ := k T hT X
  exact ⟨t, a1, h t b1⟩
/-- behind a call that may throw -/
theorem mc_call {S : M9} {Q' : QP} {a : Array Value} {arr : Array Slot} {st0 rest : List Value} (hr : vx_Run p l e R s m args below meth c H locs cells slots mc ms (F0 m pc arr st0) rest (qcD D cy base S Q' a) (xcD D cy base S Q') (kA base)) (hS : va_S (kA base) s.heap H locs)
    (kx : ∀ (E : String) (ce : Cell) (q9 : Addr) (S' : M9) (H1 : Heap) (locs1 : List Loc), Q' (.inr E) S' → va_P D kCl (pool cy S') H1 → va_D (kA base) (pool cy S') → va_S (kA base) s.heap H1 locs1 → gC S ≤ gC S' → gZ S ≤ gZ S' → gC S' ≤ cCM → gZ S' ≤ cSM → H1[q9]? = some ce → ce.vm = .none → s.vm.findClass E = some ce.cls →
      vx_W p l e R s m args below meth c H1 locs1 (cells + (gC S' - gC S)) (slots + (gZ S' - gZ S)) Z (F0 m pc arr rest) q9)
    (kk : ∀ (r : Option Value) (S' : M9) (H1 : Heap) (locs1 : List Loc), Q' (.inl r) S' → va_P D kCl (pool cy S') H1 → va_D (kA base) (pool cy S') → va_S (kA base) s.heap H1 locs1 → gC S ≤ gC S' → gZ S ≤ gZ S' → gC S' ≤ cCM → gZ S' ≤ cSM →
      W p l e R s m args below meth c H1 locs1 (cells + (gC S' - gC S)) (slots + (gZ S' - gZ S)) Z (F0 m (pc + 3) arr (r.toList ++ rest))) :
    W p l e R s m args below meth c H locs cells slots Z (F0 m pc arr st0) := by
  intro T hT X
  have hz := stand_sz X
  rcases hr T hT X with ⟨v, st₀, t, T', L, h0, X', hL, e1, e2, ⟨r, S', hv, hq, hP, hD, hF, hc1, hc2, hc3, hc4, hs1, hs2⟩, st⟩ | ⟨q, st₀, t, T', L, E, ce, h0, X', hL, e1, e2, ⟨S', hq, hP, hD, hF, hc1, hc2, hc3, hc4, hs1, hs2⟩, hce, hcv, hcl, st⟩
  · cases hv
    obtain ⟨k1, k2, k3⟩ := vx_keep h0 e1 hS (fun q _ h => h) (fun q h => h) hL hF
    have X2 := stand_tight X' (c' := cells + (gC S' - gC S)) (z' := slots + (gZ S' - gZ S)) (by rw [e1]; rw [h0, ← hT] at hs1; omega) (by rw [e1]; rw [h0, ← hT] at hs2; omega)
    obtain ⟨t2, a1, b1⟩ := kk v S' T'.heap (locs ++ L) hq (by rw [e1]; exact hP) hD k3 hc1 hc2 hc3 hc4 T' rfl X2
    exact ⟨t2, st t2 a1, b1⟩
  · obtain ⟨k1, k2, k3⟩ := vx_keep h0 e1 hS (fun q _ h => h) (fun q h => h) hL hF
    have X2 := stand_tight X' (c' := cells + (gC S' - gC S)) (z' := slots + (gZ S' - gZ S)) (by rw [e1]; rw [h0, ← hT] at hs1; omega) (by rw [e1]; rw [h0, ← hT] at hs2; omega)
    obtain ⟨t2, a1, b1⟩ := kx E ce q S' T'.heap (locs ++ L) hq (by rw [e1]; exact hP) hD k3 hc1 hc2 hc3 hc4 (by rw [e1]; exact hce) hcv hcl T' rfl X2
    exact ⟨t2, st.trans a1, b1⟩
/-- behind a call that does not throw -/
theorem mc_callN {S : M9} {Q' : QP} {a : Array Value} {arr : Array Slot} {st0 rest : List Value} (hr : va_Run p l e R s m args below meth c H locs cells slots mc ms (F0 m pc arr st0) rest (qcD D cy base S Q' a) (kA base)) (hS : va_S (kA base) s.heap H locs)
    (kk : ∀ (r : Option Value) (S' : M9) (H1 : Heap) (locs1 : List Loc), Q' (.inl r) S' → va_P D kCl (pool cy S') H1 → va_D (kA base) (pool cy S') → va_S (kA base) s.heap H1 locs1 → gC S ≤ gC S' → gZ S ≤ gZ S' → gC S' ≤ cCM → gZ S' ≤ cSM →
      W p l e R s m args below meth c H1 locs1 (cells + (gC S' - gC S)) (slots + (gZ S' - gZ S)) Z (F0 m (pc + 3) arr (r.toList ++ rest))) :
    W p l e R s m args below meth c H locs cells slots Z (F0 m pc arr st0) := by
  intro T hT X
  have hz := stand_sz X
  obtain ⟨v, st₀, t, T', L, h0, X', hL, e1, e2, ⟨r, S', hv, hq, hP, hD, hF, hc1, hc2, hc3, hc4, hs1, hs2⟩, st⟩ := hr T hT X
  cases hv
  obtain ⟨k1, k2, k3⟩ := vx_keep h0 e1 hS (fun q _ h => h) (fun q h => h) hL hF
  have X2 := stand_tight X' (c' := cells + (gC S' - gC S)) (z' := slots + (gZ S' - gZ S)) (by rw [e1]; rw [h0, ← hT] at hs1; omega) (by rw [e1]; rw [h0, ← hT] at hs2; omega)
  obtain ⟨t2, a1, b1⟩ := kk v S' T'.heap (locs ++ L) hq (by rw [e1]; exact hP) hD k3 hc1 hc2 hc3 hc4 T' rfl X2
  exact ⟨t2, st t2 a1, b1⟩
/-- a contract without a throw is a plain one -/
theorem mok_met {nm : MethodName} {ws : List Cond} {d : Nat} {As : List Value} {S : M9} (hN : ∀ E S', ¬ Q (.inr E) S') (h : MOK l ks D cy base nm ws d As S Q) : Met l nm ws (rmD d S) (pcD ks D cy base As S) (qcD D cy base S Q) (cCM - gC S) (cSM - gZ S) (kA base) := by
  refine MetFree.mono h (fun _ _ h => h) (fun _ _ _ _ _ h => h) (fun a st o t _ hq => ?_)
  rcases hq with hq | ⟨q, -, E, ce, L, ⟨S', hq, -⟩, -⟩
  · exact hq
  · exact (hN E S' hq).elim
/-- what a frame has beside Cx: its room, the old heap -/
def Cv (l : Launch) (R : Room) (s : State) (meth : Method) (ks : Nat → Nat) (base d : Nat) : Prop := 10 * (d + 1) ≤ R.frames ∧ 200 * (d + 1) ≤ R.locals ∧ l.stackTraces = false ∧ meth.locks = false ∧ OG ks (kA base) s s.heap
/-- and its end -/
def Cz (l : Launch) (R : Room) (s : State) (args : Array Value) (below : List Frame) (meth : Method) (Z : State → Prop) (ks : Nat → Nat) (D : va_G) (cy : Nat → ClassId) (base c0 z0 d : Nat) (Q : QP) (S0 : M9) : Prop :=
  c0 = gC S0 ∧ z0 = gZ S0 ∧ Cv l R s meth ks base d ∧
  Z = vx_MQ below (qcD D cy base S0 Q) (xcD D cy base S0 Q) args s (cCM - gC S0) (cSM - gZ S0) (kA base)
theorem ret_end {S0 S : M9} {v : Option Value} {g : JFrame} (hP : va_P D kCl (pool cy S) H) (hD : va_D (kA base) (pool cy S)) (hS : va_S (kA base) s.heap H locs) (h1 : gC S0 ≤ gC S) (h2 : gZ S0 ≤ gZ S) (h3 : gC S ≤ cCM) (h4 : gZ S ≤ cSM) (hq : Q (.inl v) S)
    (k : W p l e R s m args below meth c H locs (gC S - gC S0) (gZ S - gZ S0) (MQ below (fun _ _ o t => o = .returned v ∧ t.heap = H) args s (gC S - gC S0) (gZ S - gZ S0) (kA base)) g) :
    W p l e R s m args below meth c H locs (gC S - gC S0) (gZ S - gZ S0) (vx_MQ below (qcD D cy base S0 Q) (xcD D cy base S0 Q) args s (cCM - gC S0) (cSM - gZ S0) (kA base)) g := by
  refine w_mono (fun t => ?_) k
  rintro ⟨o, b1, b2, ⟨rfl, ht⟩, L, ⟨f1, f2, f3⟩, f4⟩
  have hz := hsz_of f3
  exact ⟨_, b1, b2, Or.inl ⟨⟨v, S, rfl, hq, by rw [ht]; exact hP, hD, hS.F ht, h1, h2, h3, h4, hz.1, hz.2⟩, L, ⟨f1, f2, f3.mono (by omega) (by omega)⟩, f4⟩⟩
theorem out_end {S0 S : M9} {E : String} {ce : Cell} {q : Addr} {arr : Array Slot} {rest : List Value} (hout : ∀ x ∈ c.exceptionTable.toList, covers x pc = false) (hlocks : meth.locks = false) (hP : va_P D kCl (pool cy S) H) (hD : va_D (kA base) (pool cy S)) (hS : va_S (kA base) s.heap H locs) (h1 : gC S0 ≤ gC S) (h2 : gZ S0 ≤ gZ S) (h3 : gC S ≤ cCM) (h4 : gZ S ≤ cSM) (hq : Q (.inr E) S)
    (hcell : H[q]? = some ce) (hv : ce.vm = .none) (hcl : s.vm.findClass E = some ce.cls) :
    vx_W p l e R s m args below meth c H locs (gC S - gC S0) (gZ S - gZ S0) (vx_MQ below (qcD D cy base S0 Q) (xcD D cy base S0 Q) args s (cCM - gC S0) (cSM - gZ S0) (kA base)) (F0 m pc arr rest) q := by
  intro T hT X
  have k : vx_W p l e R s m args below meth c H locs (gC S - gC S0) (gZ S - gZ S0) (vx_MQ below (fun _ _ _ _ => False) (fun E' _ t => E' = E ∧ t.heap = H) args s (gC S - gC S0) (gZ S - gZ S0) (kA base)) (F0 m pc arr rest) q := vx_out (Qc := fun _ _ _ _ => False) (XC := fun E' _ t => E' = E ∧ t.heap = H) (free := kA base) (mc := gC S - gC S0) (ms := gZ S - gZ S0) (args := args) (s := s) (rest := rest) (ls := arr) hout hlocks hcell hv hcl (fun t ht _ => ⟨rfl, ht⟩) hS.2.2 (Nat.le_refl _) (Nat.le_refl _)
  obtain ⟨t, a1, o, b1, b2, b3⟩ := k T hT X
  rcases b3 with ⟨hf, -⟩ | ⟨q', ho, E', ce', L, ⟨rfl, ht⟩, g1, g2, g3, g4, g5, g6⟩
  · exact hf.elim
  · have hz := hsz_of g5
    exact ⟨t, a1, o, b1, b2, Or.inr ⟨q', ho, E', ce', L, ⟨S, hq, by rw [ht]; exact hP, hD, hS.F ht, h1, h2, h3, h4, hz.1, hz.2⟩, g1, g2, g3, g4, g5.mono (by omega) (by omega), g6⟩⟩
end CALLS
