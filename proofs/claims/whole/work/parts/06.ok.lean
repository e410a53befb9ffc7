/-! THE INSTRUCTIONS HOLD ON THE MACHINE -/
def kA (base : Nat) : Nat → Prop := fun q => base ≤ q
/-- selects of private methods that a subclass's object is asked for -/
def exW : List Cond := [.selects RJ4 yJ5_ensureCapacityInternal_d00df yJ5_ensureCapacityInternal_d00df, .selects RJ4 yJ5_newCapacity_0f7a4 yJ5_newCapacity_0f7a4]
theorem exW_good : exW.all goodWord = true := by decide +kernel
/-- the tables' words that stay -/
def TW : List Cond := exW ++ lw_tbl.filter goodWord
theorem TW_good {w : Cond} (h : w ∈ TW) : goodWord w = true := (List.mem_append.mp h).elim (fun h => List.all_eq_true.mp exW_good w h) (fun h => (List.mem_filter.mp h).2)
/-- words that stay by laws of their own -/
def isN (w : Cond) : Bool := match w with
  | .castable _ _ => true
  | .declares _ => true
  | .methodLinkNest _ _ _ _ => true
  | .arrayOver (.object _) => true
  | _ => false
def TN : List Cond := lw_tbl.filter isN
theorem tn {w : Cond} (i : Nat) (h : lw_tbl[i]? = some w) (hg : isN w = true) : w ∈ TN := List.mem_filter.mpr ⟨List.mem_of_getElem? h, hg⟩
theorem tw {w : Cond} (i : Nat) (h : lw_tbl[i]? = some w) (hg : goodWord w = true) : w ∈ TW := List.mem_append_right _ (List.mem_filter.mpr ⟨List.mem_of_getElem? h, hg⟩)
theorem tw_in {ws : List Cond} (h : ∀ w ∈ ws, w ∈ lw_tbl) (hg : ws.all goodWord = true) : ∀ w ∈ ws, w ∈ TW := fun w hw => List.mem_append_right _ (List.mem_filter.mpr ⟨h w hw, List.all_eq_true.mp hg w hw⟩)
/-- what stays true in a method from its entry to its end -/
def Cx (p : Program) (l : Launch) (R : Room) (s : State) (m : MethodId) (args : Array Value) (c : Code) (D : va_G) (cy : Nat → ClassId) (base c0 z0 nL : Nat) (cc : ByteArray) (own : String) : Prop :=
  p.tables.exec = Jvm.exec ∧ c.code = cc ∧ c.maxLocals = nL ∧ s.vm.findClass own = some m.cls ∧ (∀ w ∈ TW, w.before args s = true) ∧ va_K D kCl (tyL cy) s ∧ base ≤ s.heap.size ∧ R.cells = cCM - c0 ∧ R.slots = cSM - z0 ∧ ∀ w ∈ TN, va_Nw w s
/-- the machine's heap is the memory -/
def Hd (s : State) (D : va_G) (cy : Nat → ClassId) (base c0 z0 : Nat) (H : Heap) (locs : List Loc) (S : M9) : Prop :=
  va_P D kCl (pool cy S) H ∧ va_D (kA base) (pool cy S) ∧ va_S (kA base) s.heap H locs ∧ c0 ≤ gC S ∧ z0 ≤ gZ S ∧ gC S ≤ cCM ∧ gZ S ≤ cSM
/-- the machine, at this place with this memory, comes to a state with Z -/
def Mc (p : Program) (l : Launch) (e : Env) (R : Room) (s : State) (m : MethodId) (args : Array Value) (below : List Frame) (meth : Method) (c : Code) (Z : State → Prop) (D : va_G) (cy : Nat → ClassId) (base c0 z0 nL : Nat) (pc : Nat) (ls : List (Option Value)) (st : List Value) (S : M9) : Prop :=
  ∀ (H : Heap) (locs : List Loc) (arr : Array Slot), Hd s D cy base c0 z0 H locs S → lh arr nL ls → W p l e R s m args below meth c H locs (gC S - c0) (gZ S - z0) Z (F0 m pc arr st)
/-- an instruction holds: what its predicate asks for brings the machine on -/
def Ok (p : Program) (l : Launch) (e : Env) (R : Room) (s : State) (m : MethodId) (args : Array Value) (below : List Frame) (meth : Method) (c : Code) (Z : State → Prop) (D : va_G) (cy : Nat → ClassId) (base c0 z0 nL : Nat) (ks : Nat → Nat) (cl : CP) (Q : QP) (X : KP) (pc : Nat) (op : Op) : Prop :=
  ∀ (ls : List (Option Value)) (st : List Value) (S : M9), op ks cl Q X ls st S → Mc p l e R s m args below meth c Z D cy base c0 z0 nL pc ls st S
section OKS
variable {p : Program} {l : Launch} {e : Env} {R : Room} {s : State} {m : MethodId} {args : Array Value} {below : List Frame} {meth : Method} {c : Code} {Z : State → Prop} {D : va_G} {cy : Nat → ClassId} {base c0 z0 nL : Nat} {cc : ByteArray} {own : String} {ks : Nat → Nat} {cl : CP} {Q : QP} {X : KP} {pc : Nat}
theorem ok_iconst (C : Cx p l R s m args c D cy base c0 z0 nL cc own) (hX : ∀ pc ls st S, X pc ls st S → Mc p l e R s m args below meth c Z D cy base c0 z0 nL pc ls st S) {n : Int} {v : Int32} (d : decode cc pc = .ok (.iconst n, 1)) (hv : Int32.ofInt n = v) : Ok p l e R s m args below meth c Z D cy base c0 z0 nL ks cl Q X pc (o_const (.int v) (pc + 1)) := by
  intro ls st S h H locs arr hH hl
  exact lv_iconst C.1 C.2.1 d hv (hX _ _ _ _ h H locs arr hH hl)
theorem ok_bipush (C : Cx p l R s m args c D cy base c0 z0 nL cc own) (hX : ∀ pc ls st S, X pc ls st S → Mc p l e R s m args below meth c Z D cy base c0 z0 nL pc ls st S) {n : Int} {v : Int32} (d : decode cc pc = .ok (.bipush n, 2)) (hv : (Int8.ofInt n).toInt32 = v) : Ok p l e R s m args below meth c Z D cy base c0 z0 nL ks cl Q X pc (o_const (.int v) (pc + 2)) := by
  intro ls st S h H locs arr hH hl
  exact lv_bipush C.1 C.2.1 d hv (hX _ _ _ _ h H locs arr hH hl)
theorem ok_sipush (C : Cx p l R s m args c D cy base c0 z0 nL cc own) (hX : ∀ pc ls st S, X pc ls st S → Mc p l e R s m args below meth c Z D cy base c0 z0 nL pc ls st S) {n : Int} {v : Int32} (d : decode cc pc = .ok (.sipush n, 3)) (hv : (Int16.ofInt n).toInt32 = v) : Ok p l e R s m args below meth c Z D cy base c0 z0 nL ks cl Q X pc (o_const (.int v) (pc + 3)) := by
  intro ls st S h H locs arr hH hl
  exact lv_sipush C.1 C.2.1 d hv (hX _ _ _ _ h H locs arr hH hl)
theorem ok_ldc (C : Cx p l R s m args c D cy base c0 z0 nL cc own) (hX : ∀ pc ls st S, X pc ls st S → Mc p l e R s m args below meth c Z D cy base c0 z0 nL pc ls st S) {index : Nat} {v : Int32} (hw : Jvm.Cond.constant own index v ∈ TW) (d : decode cc pc = .ok (.ldc index, 2)) : Ok p l e R s m args below meth c Z D cy base c0 z0 nL ks cl Q X pc (o_const (.int v) (pc + 2)) := by
  intro ls st S h H locs arr hH hl
  exact lv_ldc C.1 C.2.1 C.2.2.2.1 (C.2.2.2.2.1 _ hw) d (hX _ _ _ _ h H locs arr hH hl)
theorem ok_null (C : Cx p l R s m args c D cy base c0 z0 nL cc own) (hX : ∀ pc ls st S, X pc ls st S → Mc p l e R s m args below meth c Z D cy base c0 z0 nL pc ls st S) (d : decode cc pc = .ok (.aconst_null, 1)) : Ok p l e R s m args below meth c Z D cy base c0 z0 nL ks cl Q X pc (o_const .null (pc + 1)) := by
  intro ls st S h H locs arr hH hl
  exact lv_null C.1 C.2.1 d (hX _ _ _ _ h H locs arr hH hl)
theorem ok_iload (C : Cx p l R s m args c D cy base c0 z0 nL cc own) (hX : ∀ pc ls st S, X pc ls st S → Mc p l e R s m args below meth c Z D cy base c0 z0 nL pc ls st S) {k : Nat} (d : decode cc pc = .ok (.iload k, 2)) : Ok p l e R s m args below meth c Z D cy base c0 z0 nL ks cl Q X pc (o_iload k (pc + 2)) := by
  intro ls st S h H locs arr hH hl
  unfold o_iload at h
  split at h
  · rename_i x hx
    exact lv_iload C.1 C.2.1 d (hl.2.2.2 _ _ hx) (hX _ _ _ _ h H locs arr hH hl)
  · exact h.elim
theorem ok_iload_n (C : Cx p l R s m args c D cy base c0 z0 nL cc own) (hX : ∀ pc ls st S, X pc ls st S → Mc p l e R s m args below meth c Z D cy base c0 z0 nL pc ls st S) {k : Fin 4} {i : Nat} (d : decode cc pc = .ok (.iload_n k, 1)) (hi : (k : Nat) = i) : Ok p l e R s m args below meth c Z D cy base c0 z0 nL ks cl Q X pc (o_iload i (pc + 1)) := by
  intro ls st S h H locs arr hH hl
  unfold o_iload at h
  split at h
  · rename_i x hx
    exact lv_iload_n C.1 C.2.1 d hi (hl.2.2.2 _ _ hx) (hX _ _ _ _ h H locs arr hH hl)
  · exact h.elim
theorem ok_aload (C : Cx p l R s m args c D cy base c0 z0 nL cc own) (hX : ∀ pc ls st S, X pc ls st S → Mc p l e R s m args below meth c Z D cy base c0 z0 nL pc ls st S) {k : Nat} (d : decode cc pc = .ok (.aload k, 2)) : Ok p l e R s m args below meth c Z D cy base c0 z0 nL ks cl Q X pc (o_aload k (pc + 2)) := by
  intro ls st S h H locs arr hH hl
  unfold o_aload at h
  split at h
  · rename_i x hx
    exact lv_aload C.1 C.2.1 d (hl.2.2.2 _ _ hx) (hX _ _ _ _ h H locs arr hH hl)
  · exact h.elim
theorem ok_aload_n (C : Cx p l R s m args c D cy base c0 z0 nL cc own) (hX : ∀ pc ls st S, X pc ls st S → Mc p l e R s m args below meth c Z D cy base c0 z0 nL pc ls st S) {k : Fin 4} {i : Nat} (d : decode cc pc = .ok (.aload_n k, 1)) (hi : (k : Nat) = i) : Ok p l e R s m args below meth c Z D cy base c0 z0 nL ks cl Q X pc (o_aload i (pc + 1)) := by
  intro ls st S h H locs arr hH hl
  unfold o_aload at h
  split at h
  · rename_i x hx
    exact lv_aload_n C.1 C.2.1 d hi (hl.2.2.2 _ _ hx) (hX _ _ _ _ h H locs arr hH hl)
  · exact h.elim
theorem ok_fload (C : Cx p l R s m args c D cy base c0 z0 nL cc own) (hX : ∀ pc ls st S, X pc ls st S → Mc p l e R s m args below meth c Z D cy base c0 z0 nL pc ls st S) {k : Nat} (d : decode cc pc = .ok (.fload k, 2)) : Ok p l e R s m args below meth c Z D cy base c0 z0 nL ks cl Q X pc (o_fload k (pc + 2)) := by
  intro ls st S h H locs arr hH hl
  unfold o_fload at h
  split at h
  · rename_i x hx
    exact lv_fload C.1 C.2.1 d (hl.2.2.2 _ _ hx) (hX _ _ _ _ h H locs arr hH hl)
  · exact h.elim
theorem ok_fload_n (C : Cx p l R s m args c D cy base c0 z0 nL cc own) (hX : ∀ pc ls st S, X pc ls st S → Mc p l e R s m args below meth c Z D cy base c0 z0 nL pc ls st S) {k : Fin 4} {i : Nat} (d : decode cc pc = .ok (.fload_n k, 1)) (hi : (k : Nat) = i) : Ok p l e R s m args below meth c Z D cy base c0 z0 nL ks cl Q X pc (o_fload i (pc + 1)) := by
  intro ls st S h H locs arr hH hl
  unfold o_fload at h
  split at h
  · rename_i x hx
    exact lv_fload_n C.1 C.2.1 d hi (hl.2.2.2 _ _ hx) (hX _ _ _ _ h H locs arr hH hl)
  · exact h.elim
theorem ok_dload (C : Cx p l R s m args c D cy base c0 z0 nL cc own) (hX : ∀ pc ls st S, X pc ls st S → Mc p l e R s m args below meth c Z D cy base c0 z0 nL pc ls st S) {k : Nat} (d : decode cc pc = .ok (.dload k, 2)) : Ok p l e R s m args below meth c Z D cy base c0 z0 nL ks cl Q X pc (o_dload k (pc + 2)) := by
  intro ls st S h H locs arr hH hl
  unfold o_dload at h
  split at h
  · rename_i x hx
    exact lv_dload C.1 C.2.1 d (hl.2.2.2 _ _ hx) (hX _ _ _ _ h H locs arr hH hl)
  · exact h.elim
theorem ok_dload_n (C : Cx p l R s m args c D cy base c0 z0 nL cc own) (hX : ∀ pc ls st S, X pc ls st S → Mc p l e R s m args below meth c Z D cy base c0 z0 nL pc ls st S) {k : Fin 4} {i : Nat} (d : decode cc pc = .ok (.dload_n k, 1)) (hi : (k : Nat) = i) : Ok p l e R s m args below meth c Z D cy base c0 z0 nL ks cl Q X pc (o_dload i (pc + 1)) := by
  intro ls st S h H locs arr hH hl
  unfold o_dload at h
  split at h
  · rename_i x hx
    exact lv_dload_n C.1 C.2.1 d hi (hl.2.2.2 _ _ hx) (hX _ _ _ _ h H locs arr hH hl)
  · exact h.elim
theorem ok_istore (C : Cx p l R s m args c D cy base c0 z0 nL cc own) (hX : ∀ pc ls st S, X pc ls st S → Mc p l e R s m args below meth c Z D cy base c0 z0 nL pc ls st S) {k : Nat} (d : decode cc pc = .ok (.istore k, 2)) : Ok p l e R s m args below meth c Z D cy base c0 z0 nL ks cl Q X pc (o_istore k (pc + 2)) := by
  intro ls st S h H locs arr hH hl
  unfold o_istore at h
  split at h
  · obtain ⟨h1, h2, h3⟩ := h
    exact lv_istore C.1 C.2.1 d (lh_has hl) (by rw [← hl.2.2.1]; exact h2) rfl fun ls' hl' => hX _ _ _ _ h3 H locs ls' hH (lh_store1 hl h1 h2 hl')
  · exact h.elim
theorem ok_istore_n (C : Cx p l R s m args c D cy base c0 z0 nL cc own) (hX : ∀ pc ls st S, X pc ls st S → Mc p l e R s m args below meth c Z D cy base c0 z0 nL pc ls st S) {k : Fin 4} {i : Nat} (d : decode cc pc = .ok (.istore_n k, 1)) (hi : (k : Nat) = i) : Ok p l e R s m args below meth c Z D cy base c0 z0 nL ks cl Q X pc (o_istore i (pc + 1)) := by
  intro ls st S h H locs arr hH hl
  unfold o_istore at h
  split at h
  · obtain ⟨h1, h2, h3⟩ := h
    exact lv_istore_n C.1 C.2.1 d hi (lh_has hl) (by rw [← hl.2.2.1]; exact h2) rfl fun ls' hl' => hX _ _ _ _ h3 H locs ls' hH (lh_store1 hl h1 h2 hl')
  · exact h.elim
theorem ok_astore (C : Cx p l R s m args c D cy base c0 z0 nL cc own) (hX : ∀ pc ls st S, X pc ls st S → Mc p l e R s m args below meth c Z D cy base c0 z0 nL pc ls st S) {k : Nat} (d : decode cc pc = .ok (.astore k, 2)) : Ok p l e R s m args below meth c Z D cy base c0 z0 nL ks cl Q X pc (o_astore k (pc + 2)) := by
  intro ls st S h H locs arr hH hl
  unfold o_astore at h
  split at h
  · obtain ⟨h1, h2, h3⟩ := h
    exact lv_astore C.1 C.2.1 d (lh_has hl) (by rw [← hl.2.2.1]; exact h2) rfl fun ls' hl' => hX _ _ _ _ h3 H locs ls' hH (lh_store1 hl h1 h2 hl')
  · exact h.elim
theorem ok_astore_n (C : Cx p l R s m args c D cy base c0 z0 nL cc own) (hX : ∀ pc ls st S, X pc ls st S → Mc p l e R s m args below meth c Z D cy base c0 z0 nL pc ls st S) {k : Fin 4} {i : Nat} (d : decode cc pc = .ok (.astore_n k, 1)) (hi : (k : Nat) = i) : Ok p l e R s m args below meth c Z D cy base c0 z0 nL ks cl Q X pc (o_astore i (pc + 1)) := by
  intro ls st S h H locs arr hH hl
  unfold o_astore at h
  split at h
  · obtain ⟨h1, h2, h3⟩ := h
    exact lv_astore_n C.1 C.2.1 d hi (lh_has hl) (by rw [← hl.2.2.1]; exact h2) rfl fun ls' hl' => hX _ _ _ _ h3 H locs ls' hH (lh_store1 hl h1 h2 hl')
  · exact h.elim
theorem ok_fstore (C : Cx p l R s m args c D cy base c0 z0 nL cc own) (hX : ∀ pc ls st S, X pc ls st S → Mc p l e R s m args below meth c Z D cy base c0 z0 nL pc ls st S) {k : Nat} (d : decode cc pc = .ok (.fstore k, 2)) : Ok p l e R s m args below meth c Z D cy base c0 z0 nL ks cl Q X pc (o_fstore k (pc + 2)) := by
  intro ls st S h H locs arr hH hl
  unfold o_fstore at h
  split at h
  · obtain ⟨h1, h2, h3⟩ := h
    exact lv_fstore C.1 C.2.1 d (lh_has hl) (by rw [← hl.2.2.1]; exact h2) rfl fun ls' hl' => hX _ _ _ _ h3 H locs ls' hH (lh_store1 hl h1 h2 hl')
  · exact h.elim
theorem ok_fstore_n (C : Cx p l R s m args c D cy base c0 z0 nL cc own) (hX : ∀ pc ls st S, X pc ls st S → Mc p l e R s m args below meth c Z D cy base c0 z0 nL pc ls st S) {k : Fin 4} {i : Nat} (d : decode cc pc = .ok (.fstore_n k, 1)) (hi : (k : Nat) = i) : Ok p l e R s m args below meth c Z D cy base c0 z0 nL ks cl Q X pc (o_fstore i (pc + 1)) := by
  intro ls st S h H locs arr hH hl
  unfold o_fstore at h
  split at h
  · obtain ⟨h1, h2, h3⟩ := h
    exact lv_fstore_n C.1 C.2.1 d hi (lh_has hl) (by rw [← hl.2.2.1]; exact h2) rfl fun ls' hl' => hX _ _ _ _ h3 H locs ls' hH (lh_store1 hl h1 h2 hl')
  · exact h.elim
theorem ok_dstore (C : Cx p l R s m args c D cy base c0 z0 nL cc own) (hX : ∀ pc ls st S, X pc ls st S → Mc p l e R s m args below meth c Z D cy base c0 z0 nL pc ls st S) {k : Nat} (d : decode cc pc = .ok (.dstore k, 2)) : Ok p l e R s m args below meth c Z D cy base c0 z0 nL ks cl Q X pc (o_dstore k (pc + 2)) := by
  intro ls st S h H locs arr hH hl
  unfold o_dstore at h
  split at h
  · obtain ⟨h1, h2, h3⟩ := h
    exact lv_dstore C.1 C.2.1 d (lh_has hl) (by rw [← hl.2.2.1]; exact h2) rfl fun ls' hl' => hX _ _ _ _ h3 H locs ls' hH (lh_store2 hl h1 hl')
  · exact h.elim
theorem ok_dstore_n (C : Cx p l R s m args c D cy base c0 z0 nL cc own) (hX : ∀ pc ls st S, X pc ls st S → Mc p l e R s m args below meth c Z D cy base c0 z0 nL pc ls st S) {k : Fin 4} {i : Nat} (d : decode cc pc = .ok (.dstore_n k, 1)) (hi : (k : Nat) = i) : Ok p l e R s m args below meth c Z D cy base c0 z0 nL ks cl Q X pc (o_dstore i (pc + 1)) := by
  intro ls st S h H locs arr hH hl
  unfold o_dstore at h
  split at h
  · obtain ⟨h1, h2, h3⟩ := h
    exact lv_dstore_n C.1 C.2.1 d hi (lh_has hl) (by rw [← hl.2.2.1]; exact h2) rfl fun ls' hl' => hX _ _ _ _ h3 H locs ls' hH (lh_store2 hl h1 hl')
  · exact h.elim
theorem ok_iinc (C : Cx p l R s m args c D cy base c0 z0 nL cc own) (hX : ∀ pc ls st S, X pc ls st S → Mc p l e R s m args below meth c Z D cy base c0 z0 nL pc ls st S) {k : Nat} {n : Int} {v : Int32} (d : decode cc pc = .ok (.iinc k n, 3)) (hv : Int32.ofInt n = v) : Ok p l e R s m args below meth c Z D cy base c0 z0 nL ks cl Q X pc (o_iinc k v (pc + 3)) := by
  intro ls st S h H locs arr hH hl
  subst hv
  unfold o_iinc at h
  split at h
  · rename_i x hx
    obtain ⟨h1, h3⟩ := h
    obtain ⟨j, hj⟩ := List.getElem?_of_mem (mem_lL.mpr hx)
    have hk := gl_lt _ _ _ hx
    exact lv_iinc C.1 C.2.1 d (lh_has hl) hj rfl (by rw [← hl.2.2.1]; exact hk) rfl fun ls' hl' => hX _ _ _ _ h3 H locs ls' hH (lh_store1 hl h1 hk hl')
  · exact h.elim
theorem ok_iadd (C : Cx p l R s m args c D cy base c0 z0 nL cc own) (hX : ∀ pc ls st S, X pc ls st S → Mc p l e R s m args below meth c Z D cy base c0 z0 nL pc ls st S) (d : decode cc pc = .ok (.iadd, 1)) : Ok p l e R s m args below meth c Z D cy base c0 z0 nL ks cl Q X pc (o_bin (fun x y => x + y) (pc + 1)) := by
  intro ls st S h H locs arr hH hl
  unfold o_bin at h
  split at h
  · exact lv_iadd C.1 C.2.1 d (hX _ _ _ _ h H locs arr hH hl)
  · exact h.elim
theorem ok_isub (C : Cx p l R s m args c D cy base c0 z0 nL cc own) (hX : ∀ pc ls st S, X pc ls st S → Mc p l e R s m args below meth c Z D cy base c0 z0 nL pc ls st S) (d : decode cc pc = .ok (.isub, 1)) : Ok p l e R s m args below meth c Z D cy base c0 z0 nL ks cl Q X pc (o_bin (fun x y => x - y) (pc + 1)) := by
  intro ls st S h H locs arr hH hl
  unfold o_bin at h
  split at h
  · exact lv_isub C.1 C.2.1 d (hX _ _ _ _ h H locs arr hH hl)
  · exact h.elim
theorem ok_imul (C : Cx p l R s m args c D cy base c0 z0 nL cc own) (hX : ∀ pc ls st S, X pc ls st S → Mc p l e R s m args below meth c Z D cy base c0 z0 nL pc ls st S) (d : decode cc pc = .ok (.imul, 1)) : Ok p l e R s m args below meth c Z D cy base c0 z0 nL ks cl Q X pc (o_bin (fun x y => x * y) (pc + 1)) := by
  intro ls st S h H locs arr hH hl
  unfold o_bin at h
  split at h
  · exact lv_imul C.1 C.2.1 d (hX _ _ _ _ h H locs arr hH hl)
  · exact h.elim
theorem ok_iand (C : Cx p l R s m args c D cy base c0 z0 nL cc own) (hX : ∀ pc ls st S, X pc ls st S → Mc p l e R s m args below meth c Z D cy base c0 z0 nL pc ls st S) (d : decode cc pc = .ok (.iand, 1)) : Ok p l e R s m args below meth c Z D cy base c0 z0 nL ks cl Q X pc (o_bin (fun x y => x &&& y) (pc + 1)) := by
  intro ls st S h H locs arr hH hl
  unfold o_bin at h
  split at h
  · exact lv_iand C.1 C.2.1 d (hX _ _ _ _ h H locs arr hH hl)
  · exact h.elim
theorem ok_ior (C : Cx p l R s m args c D cy base c0 z0 nL cc own) (hX : ∀ pc ls st S, X pc ls st S → Mc p l e R s m args below meth c Z D cy base c0 z0 nL pc ls st S) (d : decode cc pc = .ok (.ior, 1)) : Ok p l e R s m args below meth c Z D cy base c0 z0 nL ks cl Q X pc (o_bin (fun x y => x ||| y) (pc + 1)) := by
  intro ls st S h H locs arr hH hl
  unfold o_bin at h
  split at h
  · exact lv_ior C.1 C.2.1 d (hX _ _ _ _ h H locs arr hH hl)
  · exact h.elim
theorem ok_ixor (C : Cx p l R s m args c D cy base c0 z0 nL cc own) (hX : ∀ pc ls st S, X pc ls st S → Mc p l e R s m args below meth c Z D cy base c0 z0 nL pc ls st S) (d : decode cc pc = .ok (.ixor, 1)) : Ok p l e R s m args below meth c Z D cy base c0 z0 nL ks cl Q X pc (o_bin (fun x y => x ^^^ y) (pc + 1)) := by
  intro ls st S h H locs arr hH hl
  unfold o_bin at h
  split at h
  · exact lv_ixor C.1 C.2.1 d (hX _ _ _ _ h H locs arr hH hl)
  · exact h.elim
theorem ok_ishl (C : Cx p l R s m args c D cy base c0 z0 nL cc own) (hX : ∀ pc ls st S, X pc ls st S → Mc p l e R s m args below meth c Z D cy base c0 z0 nL pc ls st S) (d : decode cc pc = .ok (.ishl, 1)) : Ok p l e R s m args below meth c Z D cy base c0 z0 nL ks cl Q X pc (o_bin (fun x y => x <<< (y &&& 31)) (pc + 1)) := by
  intro ls st S h H locs arr hH hl
  unfold o_bin at h
  split at h
  · exact lv_ishl C.1 C.2.1 d (hX _ _ _ _ h H locs arr hH hl)
  · exact h.elim
theorem ok_ishr (C : Cx p l R s m args c D cy base c0 z0 nL cc own) (hX : ∀ pc ls st S, X pc ls st S → Mc p l e R s m args below meth c Z D cy base c0 z0 nL pc ls st S) (d : decode cc pc = .ok (.ishr, 1)) : Ok p l e R s m args below meth c Z D cy base c0 z0 nL ks cl Q X pc (o_bin (fun x y => x >>> (y &&& 31)) (pc + 1)) := by
  intro ls st S h H locs arr hH hl
  unfold o_bin at h
  split at h
  · exact lv_ishr C.1 C.2.1 d (hX _ _ _ _ h H locs arr hH hl)
  · exact h.elim
theorem ok_iushr (C : Cx p l R s m args c D cy base c0 z0 nL cc own) (hX : ∀ pc ls st S, X pc ls st S → Mc p l e R s m args below meth c Z D cy base c0 z0 nL pc ls st S) (d : decode cc pc = .ok (.iushr, 1)) : Ok p l e R s m args below meth c Z D cy base c0 z0 nL ks cl Q X pc (o_bin (fun x y => (x.toUInt32 >>> (y.toUInt32 &&& Int32.toUInt32 31)).toInt32) (pc + 1)) := by
  intro ls st S h H locs arr hH hl
  unfold o_bin at h
  split at h
  · exact lv_iushr C.1 C.2.1 d rfl (hX _ _ _ _ h H locs arr hH hl)
  · exact h.elim
theorem ok_idiv (C : Cx p l R s m args c D cy base c0 z0 nL cc own) (hX : ∀ pc ls st S, X pc ls st S → Mc p l e R s m args below meth c Z D cy base c0 z0 nL pc ls st S) (d : decode cc pc = .ok (.idiv, 1)) : Ok p l e R s m args below meth c Z D cy base c0 z0 nL ks cl Q X pc (o_div (fun x y => x / y) (pc + 1)) := by
  intro ls st S h H locs arr hH hl
  unfold o_div at h
  split at h
  · exact lv_idiv C.1 C.2.1 d h.1 (hX _ _ _ _ h.2 H locs arr hH hl)
  · exact h.elim
theorem ok_irem (C : Cx p l R s m args c D cy base c0 z0 nL cc own) (hX : ∀ pc ls st S, X pc ls st S → Mc p l e R s m args below meth c Z D cy base c0 z0 nL pc ls st S) (d : decode cc pc = .ok (.irem, 1)) : Ok p l e R s m args below meth c Z D cy base c0 z0 nL ks cl Q X pc (o_div (fun x y => x - x / y * y) (pc + 1)) := by
  intro ls st S h H locs arr hH hl
  unfold o_div at h
  split at h
  · exact lv_irem C.1 C.2.1 d h.1 (hX _ _ _ _ h.2 H locs arr hH hl)
  · exact h.elim
theorem ok_ineg (C : Cx p l R s m args c D cy base c0 z0 nL cc own) (hX : ∀ pc ls st S, X pc ls st S → Mc p l e R s m args below meth c Z D cy base c0 z0 nL pc ls st S) (d : decode cc pc = .ok (.ineg, 1)) : Ok p l e R s m args below meth c Z D cy base c0 z0 nL ks cl Q X pc (o_un (fun x => -x) (pc + 1)) := by
  intro ls st S h H locs arr hH hl
  unfold o_un at h
  split at h
  · exact lv_ineg C.1 C.2.1 d (hX _ _ _ _ h H locs arr hH hl)
  · exact h.elim
theorem ok_i2b (C : Cx p l R s m args c D cy base c0 z0 nL cc own) (hX : ∀ pc ls st S, X pc ls st S → Mc p l e R s m args below meth c Z D cy base c0 z0 nL pc ls st S) (d : decode cc pc = .ok (.i2b, 1)) : Ok p l e R s m args below meth c Z D cy base c0 z0 nL ks cl Q X pc (o_un (fun x => x.toInt8.toInt32) (pc + 1)) := by
  intro ls st S h H locs arr hH hl
  unfold o_un at h
  split at h
  · exact lv_i2b C.1 C.2.1 d rfl (hX _ _ _ _ h H locs arr hH hl)
  · exact h.elim
theorem ok_i2c (C : Cx p l R s m args c D cy base c0 z0 nL cc own) (hX : ∀ pc ls st S, X pc ls st S → Mc p l e R s m args below meth c Z D cy base c0 z0 nL pc ls st S) (d : decode cc pc = .ok (.i2c, 1)) : Ok p l e R s m args below meth c Z D cy base c0 z0 nL ks cl Q X pc (o_un (fun x => (x.toUInt32 % 65536).toInt32) (pc + 1)) := by
  intro ls st S h H locs arr hH hl
  unfold o_un at h
  split at h
  · exact lv_i2c C.1 C.2.1 d rfl (hX _ _ _ _ h H locs arr hH hl)
  · exact h.elim
theorem ok_i2l (C : Cx p l R s m args c D cy base c0 z0 nL cc own) (hX : ∀ pc ls st S, X pc ls st S → Mc p l e R s m args below meth c Z D cy base c0 z0 nL pc ls st S) (d : decode cc pc = .ok (.i2l, 1)) : Ok p l e R s m args below meth c Z D cy base c0 z0 nL ks cl Q X pc (o_i2l (pc + 1)) := by
  intro ls st S h H locs arr hH hl
  unfold o_i2l at h
  split at h
  · exact lv_i2l C.1 C.2.1 d rfl (hX _ _ _ _ h H locs arr hH hl)
  · exact h.elim
theorem ok_i2f (C : Cx p l R s m args c D cy base c0 z0 nL cc own) (hX : ∀ pc ls st S, X pc ls st S → Mc p l e R s m args below meth c Z D cy base c0 z0 nL pc ls st S) (d : decode cc pc = .ok (.i2f, 1)) : Ok p l e R s m args below meth c Z D cy base c0 z0 nL ks cl Q X pc (o_i2f (pc + 1)) := by
  intro ls st S h H locs arr hH hl
  unfold o_i2f at h
  split at h
  · exact lv_i2f C.1 C.2.1 d (hX _ _ _ _ h H locs arr hH hl)
  · exact h.elim
theorem ok_i2d (C : Cx p l R s m args c D cy base c0 z0 nL cc own) (hX : ∀ pc ls st S, X pc ls st S → Mc p l e R s m args below meth c Z D cy base c0 z0 nL pc ls st S) (d : decode cc pc = .ok (.i2d, 1)) : Ok p l e R s m args below meth c Z D cy base c0 z0 nL ks cl Q X pc (o_i2d (pc + 1)) := by
  intro ls st S h H locs arr hH hl
  unfold o_i2d at h
  split at h
  · exact lv_i2d C.1 C.2.1 d (hX _ _ _ _ h H locs arr hH hl)
  · exact h.elim
theorem ok_f2d (C : Cx p l R s m args c D cy base c0 z0 nL cc own) (hX : ∀ pc ls st S, X pc ls st S → Mc p l e R s m args below meth c Z D cy base c0 z0 nL pc ls st S) (d : decode cc pc = .ok (.f2d, 1)) : Ok p l e R s m args below meth c Z D cy base c0 z0 nL ks cl Q X pc (o_f2d (pc + 1)) := by
  intro ls st S h H locs arr hH hl
  unfold o_f2d at h
  split at h
  · exact lv_f2d C.1 C.2.1 d h.1 (hX _ _ _ _ h.2 H locs arr hH hl)
  · exact h.elim
theorem ok_fdiv (C : Cx p l R s m args c D cy base c0 z0 nL cc own) (hX : ∀ pc ls st S, X pc ls st S → Mc p l e R s m args below meth c Z D cy base c0 z0 nL pc ls st S) (d : decode cc pc = .ok (.fdiv, 1)) : Ok p l e R s m args below meth c Z D cy base c0 z0 nL ks cl Q X pc (o_fdiv (pc + 1)) := by
  intro ls st S h H locs arr hH hl
  unfold o_fdiv at h
  split at h
  · exact lv_fdiv C.1 C.2.1 d h.1 (hX _ _ _ _ h.2 H locs arr hH hl)
  · exact h.elim
theorem ok_ddiv (C : Cx p l R s m args c D cy base c0 z0 nL cc own) (hX : ∀ pc ls st S, X pc ls st S → Mc p l e R s m args below meth c Z D cy base c0 z0 nL pc ls st S) (d : decode cc pc = .ok (.ddiv, 1)) : Ok p l e R s m args below meth c Z D cy base c0 z0 nL ks cl Q X pc (o_ddiv (pc + 1)) := by
  intro ls st S h H locs arr hH hl
  unfold o_ddiv at h
  split at h
  · exact lv_ddiv C.1 C.2.1 d h.1 (hX _ _ _ _ h.2 H locs arr hH hl)
  · exact h.elim
theorem ok_lcmp (C : Cx p l R s m args c D cy base c0 z0 nL cc own) (hX : ∀ pc ls st S, X pc ls st S → Mc p l e R s m args below meth c Z D cy base c0 z0 nL pc ls st S) (d : decode cc pc = .ok (.lcmp, 1)) : Ok p l e R s m args below meth c Z D cy base c0 z0 nL ks cl Q X pc (o_lcmp (pc + 1)) := by
  intro ls st S h H locs arr hH hl
  unfold o_lcmp at h
  split at h
  · exact W.lcmp C.1 C.2.1 d (hX _ _ _ _ h H locs arr hH hl)
  · exact h.elim
theorem ok_fcmp (C : Cx p l R s m args c D cy base c0 z0 nL cc own) (hX : ∀ pc ls st S, X pc ls st S → Mc p l e R s m args below meth c Z D cy base c0 z0 nL pc ls st S) {op : CmpOp} (d : decode cc pc = .ok (.fcmp op, 1)) : Ok p l e R s m args below meth c Z D cy base c0 z0 nL ks cl Q X pc (o_fcmp op (pc + 1)) := by
  intro ls st S h H locs arr hH hl
  unfold o_fcmp at h
  split at h
  · exact lv_fcmp C.1 C.2.1 d (hX _ _ _ _ h H locs arr hH hl)
  · exact h.elim
theorem ok_dcmp (C : Cx p l R s m args c D cy base c0 z0 nL cc own) (hX : ∀ pc ls st S, X pc ls st S → Mc p l e R s m args below meth c Z D cy base c0 z0 nL pc ls st S) {op : CmpOp} (d : decode cc pc = .ok (.dcmp op, 1)) : Ok p l e R s m args below meth c Z D cy base c0 z0 nL ks cl Q X pc (o_dcmp op (pc + 1)) := by
  intro ls st S h H locs arr hH hl
  unfold o_dcmp at h
  split at h
  · exact lv_dcmp C.1 C.2.1 d (hX _ _ _ _ h H locs arr hH hl)
  · exact h.elim
theorem ok_if_eq (C : Cx p l R s m args c D cy base c0 z0 nL cc own) (hX : ∀ pc ls st S, X pc ls st S → Mc p l e R s m args below meth c Z D cy base c0 z0 nL pc ls st S) {off : Int} {tg : Nat} (d : decode cc pc = .ok (.ifCond .eq off, 3)) (ht : (pc : Int) + off = (tg : Int)) : Ok p l e R s m args below meth c Z D cy base c0 z0 nL ks cl Q X pc (o_if (fun x => x = 0) tg (pc + 3)) := by
  intro ls st S h H locs arr hH hl
  unfold o_if at h
  split at h
  · exact lv_if_eq C.1 C.2.1 d ht (fun q => hX _ _ _ _ (h.1 q) H locs arr hH hl) (fun q => hX _ _ _ _ (h.2 q) H locs arr hH hl)
  · exact h.elim
theorem ok_if_ne (C : Cx p l R s m args c D cy base c0 z0 nL cc own) (hX : ∀ pc ls st S, X pc ls st S → Mc p l e R s m args below meth c Z D cy base c0 z0 nL pc ls st S) {off : Int} {tg : Nat} (d : decode cc pc = .ok (.ifCond .ne off, 3)) (ht : (pc : Int) + off = (tg : Int)) : Ok p l e R s m args below meth c Z D cy base c0 z0 nL ks cl Q X pc (o_if (fun x => ¬ x = 0) tg (pc + 3)) := by
  intro ls st S h H locs arr hH hl
  unfold o_if at h
  split at h
  · exact lv_if_ne C.1 C.2.1 d ht (fun q => hX _ _ _ _ (h.1 q) H locs arr hH hl) (fun q => hX _ _ _ _ (h.2 (fun z => z q)) H locs arr hH hl)
  · exact h.elim
theorem ok_if_lt (C : Cx p l R s m args c D cy base c0 z0 nL cc own) (hX : ∀ pc ls st S, X pc ls st S → Mc p l e R s m args below meth c Z D cy base c0 z0 nL pc ls st S) {off : Int} {tg : Nat} (d : decode cc pc = .ok (.ifCond .lt off, 3)) (ht : (pc : Int) + off = (tg : Int)) : Ok p l e R s m args below meth c Z D cy base c0 z0 nL ks cl Q X pc (o_if (fun x => x < 0) tg (pc + 3)) := by
  intro ls st S h H locs arr hH hl
  unfold o_if at h
  split at h
  · exact lv_if_lt C.1 C.2.1 d ht (fun q => hX _ _ _ _ (h.1 q) H locs arr hH hl) (fun q => hX _ _ _ _ (h.2 q) H locs arr hH hl)
  · exact h.elim
theorem ok_if_ge (C : Cx p l R s m args c D cy base c0 z0 nL cc own) (hX : ∀ pc ls st S, X pc ls st S → Mc p l e R s m args below meth c Z D cy base c0 z0 nL pc ls st S) {off : Int} {tg : Nat} (d : decode cc pc = .ok (.ifCond .ge off, 3)) (ht : (pc : Int) + off = (tg : Int)) : Ok p l e R s m args below meth c Z D cy base c0 z0 nL ks cl Q X pc (o_if (fun x => 0 ≤ x) tg (pc + 3)) := by
  intro ls st S h H locs arr hH hl
  unfold o_if at h
  split at h
  · exact lv_if_ge C.1 C.2.1 d ht (fun q => hX _ _ _ _ (h.1 q) H locs arr hH hl) (fun q => hX _ _ _ _ (h.2 q) H locs arr hH hl)
  · exact h.elim
theorem ok_if_gt (C : Cx p l R s m args c D cy base c0 z0 nL cc own) (hX : ∀ pc ls st S, X pc ls st S → Mc p l e R s m args below meth c Z D cy base c0 z0 nL pc ls st S) {off : Int} {tg : Nat} (d : decode cc pc = .ok (.ifCond .gt off, 3)) (ht : (pc : Int) + off = (tg : Int)) : Ok p l e R s m args below meth c Z D cy base c0 z0 nL ks cl Q X pc (o_if (fun x => 0 < x) tg (pc + 3)) := by
  intro ls st S h H locs arr hH hl
  unfold o_if at h
  split at h
  · exact lv_if_gt C.1 C.2.1 d ht (fun q => hX _ _ _ _ (h.1 q) H locs arr hH hl) (fun q => hX _ _ _ _ (h.2 q) H locs arr hH hl)
  · exact h.elim
theorem ok_if_le (C : Cx p l R s m args c D cy base c0 z0 nL cc own) (hX : ∀ pc ls st S, X pc ls st S → Mc p l e R s m args below meth c Z D cy base c0 z0 nL pc ls st S) {off : Int} {tg : Nat} (d : decode cc pc = .ok (.ifCond .le off, 3)) (ht : (pc : Int) + off = (tg : Int)) : Ok p l e R s m args below meth c Z D cy base c0 z0 nL ks cl Q X pc (o_if (fun x => x ≤ 0) tg (pc + 3)) := by
  intro ls st S h H locs arr hH hl
  unfold o_if at h
  split at h
  · exact lv_if_le C.1 C.2.1 d ht (fun q => hX _ _ _ _ (h.1 q) H locs arr hH hl) (fun q => hX _ _ _ _ (h.2 q) H locs arr hH hl)
  · exact h.elim
theorem ok_icmp_eq (C : Cx p l R s m args c D cy base c0 z0 nL cc own) (hX : ∀ pc ls st S, X pc ls st S → Mc p l e R s m args below meth c Z D cy base c0 z0 nL pc ls st S) {off : Int} {tg : Nat} (d : decode cc pc = .ok (.if_icmp .eq off, 3)) (ht : (pc : Int) + off = (tg : Int)) : Ok p l e R s m args below meth c Z D cy base c0 z0 nL ks cl Q X pc (o_if2 (fun x y => x = y) tg (pc + 3)) := by
  intro ls st S h H locs arr hH hl
  unfold o_if2 at h
  split at h
  · exact lv_icmp_eq C.1 C.2.1 d ht (fun q => hX _ _ _ _ (h.1 q) H locs arr hH hl) (fun q => hX _ _ _ _ (h.2 q) H locs arr hH hl)
  · exact h.elim
theorem ok_icmp_ne (C : Cx p l R s m args c D cy base c0 z0 nL cc own) (hX : ∀ pc ls st S, X pc ls st S → Mc p l e R s m args below meth c Z D cy base c0 z0 nL pc ls st S) {off : Int} {tg : Nat} (d : decode cc pc = .ok (.if_icmp .ne off, 3)) (ht : (pc : Int) + off = (tg : Int)) : Ok p l e R s m args below meth c Z D cy base c0 z0 nL ks cl Q X pc (o_if2 (fun x y => ¬ x = y) tg (pc + 3)) := by
  intro ls st S h H locs arr hH hl
  unfold o_if2 at h
  split at h
  · exact lv_icmp_ne C.1 C.2.1 d ht (fun q => hX _ _ _ _ (h.1 q) H locs arr hH hl) (fun q => hX _ _ _ _ (h.2 (fun z => z q)) H locs arr hH hl)
  · exact h.elim
theorem ok_icmp_lt (C : Cx p l R s m args c D cy base c0 z0 nL cc own) (hX : ∀ pc ls st S, X pc ls st S → Mc p l e R s m args below meth c Z D cy base c0 z0 nL pc ls st S) {off : Int} {tg : Nat} (d : decode cc pc = .ok (.if_icmp .lt off, 3)) (ht : (pc : Int) + off = (tg : Int)) : Ok p l e R s m args below meth c Z D cy base c0 z0 nL ks cl Q X pc (o_if2 (fun x y => x < y) tg (pc + 3)) := by
  intro ls st S h H locs arr hH hl
  unfold o_if2 at h
  split at h
  · exact lv_icmp_lt C.1 C.2.1 d ht (fun q => hX _ _ _ _ (h.1 q) H locs arr hH hl) (fun q => hX _ _ _ _ (h.2 q) H locs arr hH hl)
  · exact h.elim
theorem ok_icmp_ge (C : Cx p l R s m args c D cy base c0 z0 nL cc own) (hX : ∀ pc ls st S, X pc ls st S → Mc p l e R s m args below meth c Z D cy base c0 z0 nL pc ls st S) {off : Int} {tg : Nat} (d : decode cc pc = .ok (.if_icmp .ge off, 3)) (ht : (pc : Int) + off = (tg : Int)) : Ok p l e R s m args below meth c Z D cy base c0 z0 nL ks cl Q X pc (o_if2 (fun x y => y ≤ x) tg (pc + 3)) := by
  intro ls st S h H locs arr hH hl
  unfold o_if2 at h
  split at h
  · exact lv_icmp_ge C.1 C.2.1 d ht (fun q => hX _ _ _ _ (h.1 q) H locs arr hH hl) (fun q => hX _ _ _ _ (h.2 q) H locs arr hH hl)
  · exact h.elim
theorem ok_icmp_gt (C : Cx p l R s m args c D cy base c0 z0 nL cc own) (hX : ∀ pc ls st S, X pc ls st S → Mc p l e R s m args below meth c Z D cy base c0 z0 nL pc ls st S) {off : Int} {tg : Nat} (d : decode cc pc = .ok (.if_icmp .gt off, 3)) (ht : (pc : Int) + off = (tg : Int)) : Ok p l e R s m args below meth c Z D cy base c0 z0 nL ks cl Q X pc (o_if2 (fun x y => y < x) tg (pc + 3)) := by
  intro ls st S h H locs arr hH hl
  unfold o_if2 at h
  split at h
  · exact lv_icmp_gt C.1 C.2.1 d ht (fun q => hX _ _ _ _ (h.1 q) H locs arr hH hl) (fun q => hX _ _ _ _ (h.2 q) H locs arr hH hl)
  · exact h.elim
theorem ok_icmp_le (C : Cx p l R s m args c D cy base c0 z0 nL cc own) (hX : ∀ pc ls st S, X pc ls st S → Mc p l e R s m args below meth c Z D cy base c0 z0 nL pc ls st S) {off : Int} {tg : Nat} (d : decode cc pc = .ok (.if_icmp .le off, 3)) (ht : (pc : Int) + off = (tg : Int)) : Ok p l e R s m args below meth c Z D cy base c0 z0 nL ks cl Q X pc (o_if2 (fun x y => x ≤ y) tg (pc + 3)) := by
  intro ls st S h H locs arr hH hl
  unfold o_if2 at h
  split at h
  · exact lv_icmp_le C.1 C.2.1 d ht (fun q => hX _ _ _ _ (h.1 q) H locs arr hH hl) (fun q => hX _ _ _ _ (h.2 q) H locs arr hH hl)
  · exact h.elim
theorem ok_goto (C : Cx p l R s m args c D cy base c0 z0 nL cc own) (hX : ∀ pc ls st S, X pc ls st S → Mc p l e R s m args below meth c Z D cy base c0 z0 nL pc ls st S) {off : Int} {tg : Nat} (d : decode cc pc = .ok (.goto off, 3)) (ht : (pc : Int) + off = (tg : Int)) : Ok p l e R s m args below meth c Z D cy base c0 z0 nL ks cl Q X pc (o_goto tg) := by
  intro ls st S h H locs arr hH hl
  exact lv_goto C.1 C.2.1 d ht (hX _ _ _ _ h H locs arr hH hl)
theorem ok_dup (C : Cx p l R s m args c D cy base c0 z0 nL cc own) (hX : ∀ pc ls st S, X pc ls st S → Mc p l e R s m args below meth c Z D cy base c0 z0 nL pc ls st S) (d : decode cc pc = .ok (.dup, 1)) : Ok p l e R s m args below meth c Z D cy base c0 z0 nL ks cl Q X pc (o_dup (pc + 1)) := by
  intro ls st S h H locs arr hH hl
  unfold o_dup at h
  split at h
  · exact lv_dup C.1 C.2.1 d h.1 (hX _ _ _ _ h.2 H locs arr hH hl)
  · exact h.elim
theorem ok_dupx1 (C : Cx p l R s m args c D cy base c0 z0 nL cc own) (hX : ∀ pc ls st S, X pc ls st S → Mc p l e R s m args below meth c Z D cy base c0 z0 nL pc ls st S) (d : decode cc pc = .ok (.dup_x1, 1)) : Ok p l e R s m args below meth c Z D cy base c0 z0 nL ks cl Q X pc (o_dupx1 (pc + 1)) := by
  intro ls st S h H locs arr hH hl
  unfold o_dupx1 at h
  split at h
  · exact lv_dup_x1 C.1 C.2.1 d h.1 h.2.1 (hX _ _ _ _ h.2.2 H locs arr hH hl)
  · exact h.elim
theorem ok_dup2 (C : Cx p l R s m args c D cy base c0 z0 nL cc own) (hX : ∀ pc ls st S, X pc ls st S → Mc p l e R s m args below meth c Z D cy base c0 z0 nL pc ls st S) (d : decode cc pc = .ok (.dup2, 1)) : Ok p l e R s m args below meth c Z D cy base c0 z0 nL ks cl Q X pc (o_dup2 (pc + 1)) := by
  intro ls st S h H locs arr hH hl
  unfold o_dup2 at h
  split at h
  · exact lv_dup2_11 C.1 C.2.1 d h.1 h.2.1 (hX _ _ _ _ h.2.2 H locs arr hH hl)
  · exact h.elim
theorem ok_pop (C : Cx p l R s m args c D cy base c0 z0 nL cc own) (hX : ∀ pc ls st S, X pc ls st S → Mc p l e R s m args below meth c Z D cy base c0 z0 nL pc ls st S) (d : decode cc pc = .ok (.pop, 1)) : Ok p l e R s m args below meth c Z D cy base c0 z0 nL ks cl Q X pc (o_pop (pc + 1)) := by
  intro ls st S h H locs arr hH hl
  unfold o_pop at h
  split at h
  · exact lv_pop C.1 C.2.1 d h.1 (hX _ _ _ _ h.2 H locs arr hH hl)
  · exact h.elim
theorem ok_getI (C : Cx p l R s m args c D cy base c0 z0 nL cc own) (hX : ∀ pc ls st S, X pc ls st S → Mc p l e R s m args below meth c Z D cy base c0 z0 nL pc ls st S) {t index N k : Nat} {Cn : String} {T : u_T} (hc : kCl[t]? = some (Cn, T, N)) (hin : ∀ w ∈ u_ws Cn T N, w ∈ TW) (hk : k < N) (hf : (fk t)[k]? = some false) (hw : Cond.fieldLink own index (T k).1 (T k).2.1 (T k).2.2.1 ∈ TW) (d : decode cc pc = .ok (.getfield index, 3)) : Ok p l e R s m args below meth c Z D cy base c0 z0 nL ks cl Q X pc (o_getI t k (pc + 3)) := by
  intro ls st S h H locs arr hH hl
  unfold o_getI at h
  split at h
  · obtain ⟨ha, hkd, h⟩ := h
    have ht : t < 12 := (List.getElem?_eq_some_iff.mp hc).1
    obtain ⟨k0, hk0⟩ := pool_get (cy := cy) ha
    rw [cell_obj hkd ht] at hk0
    exact va_get (D := D) C.1 C.2.1 C.2.2.2.2.1 hin C.2.2.2.1 C.2.2.2.2.2.1 hH.1 k0 hk0 hc k hk (C.2.2.2.2.1 _ hw) (fun _ h9 => h9) (fl_int hf) d (hX _ _ _ _ h H locs arr hH hl)
  · exact h.elim
theorem ok_getR (C : Cx p l R s m args c D cy base c0 z0 nL cc own) (hX : ∀ pc ls st S, X pc ls st S → Mc p l e R s m args below meth c Z D cy base c0 z0 nL pc ls st S) {t index N k : Nat} {Cn : String} {T : u_T} (hc : kCl[t]? = some (Cn, T, N)) (hin : ∀ w ∈ u_ws Cn T N, w ∈ TW) (hk : k < N) (hf : (fk t)[k]? = some true) (hw : Cond.fieldLink own index (T k).1 (T k).2.1 (T k).2.2.1 ∈ TW) (d : decode cc pc = .ok (.getfield index, 3)) : Ok p l e R s m args below meth c Z D cy base c0 z0 nL ks cl Q X pc (o_getR t k (pc + 3)) := by
  intro ls st S h H locs arr hH hl
  unfold o_getR at h
  split at h
  · obtain ⟨ha, hkd, h⟩ := h
    have ht : t < 12 := (List.getElem?_eq_some_iff.mp hc).1
    obtain ⟨k0, hk0⟩ := pool_get (cy := cy) ha
    rw [cell_obj hkd ht] at hk0
    exact va_get (D := D) C.1 C.2.1 C.2.2.2.2.1 hin C.2.2.2.1 C.2.2.2.2.2.1 hH.1 k0 hk0 hc k hk (C.2.2.2.2.1 _ hw) (fun _ h9 => h9) (fl_ref hf) d (hX _ _ _ _ h H locs arr hH hl)
  · exact h.elim
theorem ok_putI (C : Cx p l R s m args c D cy base c0 z0 nL cc own) (hX : ∀ pc ls st S, X pc ls st S → Mc p l e R s m args below meth c Z D cy base c0 z0 nL pc ls st S) {t index N k : Nat} {Cn : String} {T : u_T} {ty : FieldType} (hc : kCl[t]? = some (Cn, T, N)) (hin : ∀ w ∈ u_ws Cn T N, w ∈ TW) (tys : Nat → FieldType) (hty : ∀ k, k < N → parseFieldDescriptor (T k).2.2.1 = some (tys k)) (hnm : ∀ a, a < N → ∀ b, b < N → a ≠ b → (T a).2.1 ≠ (T b).2.1) (hk : k < N) (hf : (fk t)[k]? = some false) (hfin : (T k).2.2.2 = false ∨ ((T k).2.2.2 = true ∧ meth.name = "<init>" ∧ (T k).1 = own)) (hd : parseFieldDescriptor (T k).2.2.1 = some ty) (hw : Cond.fieldLink own index (T k).1 (T k).2.1 (T k).2.2.1 ∈ TW) (d : decode cc pc = .ok (.putfield index, 3)) : Ok p l e R s m args below meth c Z D cy base c0 z0 nL ks cl Q X pc (o_putI t k ty (pc + 3)) := by
  intro ls st S h H locs arr hH hl
  unfold o_putI at h
  split at h
  · rename_i v a r
    obtain ⟨ha, hkd, ⟨hn, hfit⟩, h⟩ := h
    have ht : t < 12 := (List.getElem?_eq_some_iff.mp hc).1
    obtain ⟨k0, hk0⟩ := pool_get (cy := cy) ha
    have hps := fun e => pool_set (S' := sI S t a k v) (e := e) hH.2.1 ha hk0 rfl (agr_sI S t a k v)
    rw [cell_obj hkd ht] at hk0
    have hlen : k < (fl S t a).length := by rw [fl_len]; exact (List.getElem?_eq_some_iff.mp hf).1
    have he : (Sum.inr (t, (fl S t a).set k (.int v)) : va_E) = cellOf cy (sI S t a k v) a := by rw [cell_obj (S := sI S t a k v) hkd ht, fl_sI hf]
    rcases hfin with hfin | ⟨hfin, hin2, hdecl⟩
    · refine va_put (D := D) C.1 C.2.1 C.2.2.2.2.1 hin tys hty hnm C.2.2.2.1 C.2.2.2.2.2.1 hH.1 hH.2.1 hH.2.2.1 k0 hk0 hc k hk (C.2.2.2.2.1 _ hw) (fun _ h9 => h9) hfin hd hn hfit hlen d (fun H1 locs1 hP1 hD1 hS1 => ?_)
      rw [hps _ he] at hP1 hD1
      exact hX _ _ _ _ h H1 locs1 arr ⟨hP1, hD1, hS1, hH.2.2.2⟩ hl
    · refine va_putF (D := D) C.1 C.2.1 C.2.2.2.2.1 hin tys hty hnm C.2.2.2.1 C.2.2.2.2.2.1 hH.1 hH.2.1 hH.2.2.1 k0 hk0 hc k hk (C.2.2.2.2.1 _ hw) (fun _ h9 => h9) hfin hin2 hdecl hd hn hfit hlen d (fun H1 locs1 hP1 hD1 hS1 => ?_)
      rw [hps _ he] at hP1 hD1
      exact hX _ _ _ _ h H1 locs1 arr ⟨hP1, hD1, hS1, hH.2.2.2⟩ hl
  · exact h.elim
theorem ok_putR (C : Cx p l R s m args c D cy base c0 z0 nL cc own) (hX : ∀ pc ls st S, X pc ls st S → Mc p l e R s m args below meth c Z D cy base c0 z0 nL pc ls st S) {t index N k : Nat} {Cn : String} {T : u_T} {ty : FieldType} (hc : kCl[t]? = some (Cn, T, N)) (hin : ∀ w ∈ u_ws Cn T N, w ∈ TW) (tys : Nat → FieldType) (hty : ∀ k, k < N → parseFieldDescriptor (T k).2.2.1 = some (tys k)) (hnm : ∀ a, a < N → ∀ b, b < N → a ≠ b → (T a).2.1 ≠ (T b).2.1) (hk : k < N) (hf : (fk t)[k]? = some true) (hfin : (T k).2.2.2 = false ∨ ((T k).2.2.2 = true ∧ meth.name = "<init>" ∧ (T k).1 = own)) (hd : parseFieldDescriptor (T k).2.2.1 = some ty) (hrt : ∀ a, narrow ty (.ref a) = .ref a ∧ fits ty (.ref a) = true) (hw : Cond.fieldLink own index (T k).1 (T k).2.1 (T k).2.2.1 ∈ TW) (d : decode cc pc = .ok (.putfield index, 3)) : Ok p l e R s m args below meth c Z D cy base c0 z0 nL ks cl Q X pc (o_putR t k (pc + 3)) := by
  intro ls st S h H locs arr hH hl
  unfold o_putR at h
  split at h
  · rename_i v a r
    obtain ⟨ha, hkd, h⟩ := h
    have ht : t < 12 := (List.getElem?_eq_some_iff.mp hc).1
    obtain ⟨k0, hk0⟩ := pool_get (cy := cy) ha
    have hps := fun e => pool_set (S' := sR S t a k (some v)) (e := e) hH.2.1 ha hk0 rfl (agr_sR S t a k (some v))
    rw [cell_obj hkd ht] at hk0
    have hlen : k < (fl S t a).length := by rw [fl_len]; exact (List.getElem?_eq_some_iff.mp hf).1
    have he : (Sum.inr (t, (fl S t a).set k (.ref v)) : va_E) = cellOf cy (sR S t a k (some v)) a := by rw [cell_obj (S := sR S t a k (some v)) hkd ht, ← fl_sR hf]; rfl
    rcases hfin with hfin | ⟨hfin, hin2, hdecl⟩
    · refine va_put (D := D) C.1 C.2.1 C.2.2.2.2.1 hin tys hty hnm C.2.2.2.1 C.2.2.2.2.2.1 hH.1 hH.2.1 hH.2.2.1 k0 hk0 hc k hk (C.2.2.2.2.1 _ hw) (fun _ h9 => h9) hfin hd (hrt v).1 (hrt v).2 hlen d (fun H1 locs1 hP1 hD1 hS1 => ?_)
      rw [hps _ he] at hP1 hD1
      exact hX _ _ _ _ h H1 locs1 arr ⟨hP1, hD1, hS1, hH.2.2.2⟩ hl
    · refine va_putF (D := D) C.1 C.2.1 C.2.2.2.2.1 hin tys hty hnm C.2.2.2.1 C.2.2.2.2.2.1 hH.1 hH.2.1 hH.2.2.1 k0 hk0 hc k hk (C.2.2.2.2.1 _ hw) (fun _ h9 => h9) hfin hin2 hdecl hd (hrt v).1 (hrt v).2 hlen d (fun H1 locs1 hP1 hD1 hS1 => ?_)
      rw [hps _ he] at hP1 hD1
      exact hX _ _ _ _ h H1 locs1 arr ⟨hP1, hD1, hS1, hH.2.2.2⟩ hl
  · exact h.elim
theorem pool_int {S : M9} {a k0 : Nat} (h17 : 17 ≤ gK S a) (hk0 : (pool cy S)[k0]? = some (a, cellOf cy S a)) : (pool cy S)[k0]? = some (a, .inl (cy 5, gN S a, .inl (gI S (gK S a) a))) := by
  rw [hk0, cell_arr (t := gK S a) rfl (by omega), cnt_int (by omega), ay_int h17]
theorem cell_int {S : M9} {a t : Nat} (h : gK S a = t) (h17 : 17 ≤ t) : cellOf cy S a = .inl (cy 5, gN S a, .inl (gI S t a)) := by
  rw [cell_arr h (by omega), cnt_int (by omega), ay_int h17]
theorem ok_iald (C : Cx p l R s m args c D cy base c0 z0 nL cc own) (hX : ∀ pc ls st S, X pc ls st S → Mc p l e R s m args below meth c Z D cy base c0 z0 nL pc ls st S) (d : decode cc pc = .ok (.iaload, 1)) : Ok p l e R s m args below meth c Z D cy base c0 z0 nL ks cl Q X pc (o_iald (pc + 1)) := by
  intro ls st S h H locs arr hH hl
  unfold o_iald at h
  split at h
  · obtain ⟨ha, h17, hin, h⟩ := h
    obtain ⟨k0, hk0⟩ := pool_get (cy := cy) ha
    exact va_iald C.1 C.2.1 C.2.2.2.2.2.1 hH.1 k0 5 (pool_int h17 hk0) rfl hin d (hX _ _ _ _ h H locs arr hH hl)
  · exact h.elim
theorem ok_iast (C : Cx p l R s m args c D cy base c0 z0 nL cc own) (hX : ∀ pc ls st S, X pc ls st S → Mc p l e R s m args below meth c Z D cy base c0 z0 nL pc ls st S) (d : decode cc pc = .ok (.iastore, 1)) : Ok p l e R s m args below meth c Z D cy base c0 z0 nL ks cl Q X pc (o_iast (pc + 1)) := by
  intro ls st S h H locs arr hH hl
  unfold o_iast at h
  split at h
  · rename_i x i a r
    obtain ⟨ha, h17, hin, h⟩ := h
    obtain ⟨k0, hk0⟩ := pool_get (cy := cy) ha
    have hps := fun e => pool_set (S' := sI S (gK S a) a i.toNatClampNeg x) (e := e) hH.2.1 ha hk0 rfl (agr_sI S (gK S a) a _ x)
    refine va_iast C.1 C.2.1 C.2.2.2.2.2.1 hH.1 hH.2.1 hH.2.2.1 k0 5 (pool_int h17 hk0) rfl hin d (fun H1 locs1 hP1 hD1 hS1 => ?_)
    rw [hps _ (by rw [cell_int (S := sI S (gK S a) a i.toNatClampNeg x) (t := gK S a) rfl h17, gI_sI, if_pos ⟨rfl, rfl⟩]; rfl)] at hP1 hD1
    exact hX _ _ _ _ h H1 locs1 arr ⟨hP1, hD1, hS1, hH.2.2.2⟩ hl
  · exact h.elim
theorem ok_bald (C : Cx p l R s m args c D cy base c0 z0 nL cc own) (hX : ∀ pc ls st S, X pc ls st S → Mc p l e R s m args below meth c Z D cy base c0 z0 nL pc ls st S) (d : decode cc pc = .ok (.baload, 1)) : Ok p l e R s m args below meth c Z D cy base c0 z0 nL ks cl Q X pc (o_bald (pc + 1)) := by
  intro ls st S h H locs arr hH hl
  unfold o_bald at h
  split at h
  · obtain ⟨ha, hkd, hin, h⟩ := h
    obtain ⟨k0, hk0⟩ := pool_get (cy := cy) ha
    rw [cell_arr hkd (by omega)] at hk0
    exact va_bald C.1 C.2.1 C.2.2.2.2.2.1 hH.1 k0 3 hk0 rfl hin d (hX _ _ _ _ h H locs arr hH hl)
  · exact h.elim
theorem ok_bast (C : Cx p l R s m args c D cy base c0 z0 nL cc own) (hX : ∀ pc ls st S, X pc ls st S → Mc p l e R s m args below meth c Z D cy base c0 z0 nL pc ls st S) (d : decode cc pc = .ok (.bastore, 1)) : Ok p l e R s m args below meth c Z D cy base c0 z0 nL ks cl Q X pc (o_bast (pc + 1)) := by
  intro ls st S h H locs arr hH hl
  unfold o_bast at h
  split at h
  · rename_i x i a r
    obtain ⟨ha, hkd, hin, h⟩ := h
    obtain ⟨k0, hk0⟩ := pool_get (cy := cy) ha
    have hps := fun e => pool_set (S' := sI S 15 a i.toNatClampNeg (vp_nar .byte x)) (e := e) hH.2.1 ha hk0 rfl (agr_sI S 15 a _ (vp_nar .byte x))
    rw [cell_arr hkd (by omega)] at hk0
    refine va_bast C.1 C.2.1 C.2.2.2.2.2.1 hH.1 hH.2.1 hH.2.2.1 k0 3 hk0 rfl hin d (fun H1 locs1 hP1 hD1 hS1 => ?_)
    rw [hps _ (by rw [cell_arr (S := sI S 15 a i.toNatClampNeg (vp_nar .byte x)) (t := 15) hkd (by omega)]; simp [cnt, gI_sI, ay]; rfl)] at hP1 hD1
    exact hX _ _ _ _ h H1 locs1 arr ⟨hP1, hD1, hS1, hH.2.2.2⟩ hl
  · exact h.elim
theorem ok_zald (C : Cx p l R s m args c D cy base c0 z0 nL cc own) (hX : ∀ pc ls st S, X pc ls st S → Mc p l e R s m args below meth c Z D cy base c0 z0 nL pc ls st S) (d : decode cc pc = .ok (.baload, 1)) : Ok p l e R s m args below meth c Z D cy base c0 z0 nL ks cl Q X pc (o_zald (pc + 1)) := by
  intro ls st S h H locs arr hH hl
  unfold o_zald at h
  split at h
  · obtain ⟨ha, hkd, hin, h⟩ := h
    obtain ⟨k0, hk0⟩ := pool_get (cy := cy) ha
    rw [cell_arr hkd (by omega)] at hk0
    exact va_zald C.1 C.2.1 C.2.2.2.2.2.1 hH.1 k0 4 hk0 rfl hin d (hX _ _ _ _ h H locs arr hH hl)
  · exact h.elim
theorem ok_zast (C : Cx p l R s m args c D cy base c0 z0 nL cc own) (hX : ∀ pc ls st S, X pc ls st S → Mc p l e R s m args below meth c Z D cy base c0 z0 nL pc ls st S) (d : decode cc pc = .ok (.bastore, 1)) : Ok p l e R s m args below meth c Z D cy base c0 z0 nL ks cl Q X pc (o_zast (pc + 1)) := by
  intro ls st S h H locs arr hH hl
  unfold o_zast at h
  split at h
  · rename_i x i a r
    obtain ⟨ha, hkd, hin, h⟩ := h
    obtain ⟨k0, hk0⟩ := pool_get (cy := cy) ha
    have hps := fun e => pool_set (S' := sI S 16 a i.toNatClampNeg (vp_nar .boolean x)) (e := e) hH.2.1 ha hk0 rfl (agr_sI S 16 a _ (vp_nar .boolean x))
    rw [cell_arr hkd (by omega)] at hk0
    refine va_zast C.1 C.2.1 C.2.2.2.2.2.1 hH.1 hH.2.1 hH.2.2.1 k0 4 hk0 rfl hin d (fun H1 locs1 hP1 hD1 hS1 => ?_)
    rw [hps _ (by rw [cell_arr (S := sI S 16 a i.toNatClampNeg (vp_nar .boolean x)) (t := 16) hkd (by omega)]; simp [cnt, gI_sI, ay]; rfl)] at hP1 hD1
    exact hX _ _ _ _ h H1 locs1 arr ⟨hP1, hD1, hS1, hH.2.2.2⟩ hl
  · exact h.elim
theorem ok_aald (C : Cx p l R s m args c D cy base c0 z0 nL cc own) (hX : ∀ pc ls st S, X pc ls st S → Mc p l e R s m args below meth c Z D cy base c0 z0 nL pc ls st S) (d : decode cc pc = .ok (.aaload, 1)) : Ok p l e R s m args below meth c Z D cy base c0 z0 nL ks cl Q X pc (o_aald (pc + 1)) := by
  intro ls st S h H locs arr hH hl
  unfold o_aald at h
  split at h
  · obtain ⟨ha, hkd, hin, h⟩ := h
    obtain ⟨k0, hk0⟩ := pool_get (cy := cy) ha
    rw [cell_arr hkd (by omega)] at hk0
    exact va_aldq C.1 C.2.1 C.2.2.2.2.2.1 hH.1 k0 0 hk0 rfl hin d (hX _ _ _ _ h H locs arr hH hl)
  · exact h.elim
theorem ok_aast (C : Cx p l R s m args c D cy base c0 z0 nL cc own) (hX : ∀ pc ls st S, X pc ls st S → Mc p l e R s m args below meth c Z D cy base c0 z0 nL pc ls st S) (d : decode cc pc = .ok (.aastore, 1)) : Ok p l e R s m args below meth c Z D cy base c0 z0 nL ks cl Q X pc (o_aast (pc + 1)) := by
  intro ls st S h H locs arr hH hl
  unfold o_aast at h
  split at h
  · rename_i v i a r
    obtain ⟨ha, hkd, hv, hvk, hin, h⟩ := h
    obtain ⟨k0, hk0⟩ := pool_get (cy := cy) ha
    obtain ⟨k1, hk1⟩ := pool_get (cy := cy) hv
    have hps := fun e => pool_set (S' := sR S 12 a i.toNatClampNeg (some v)) (e := e) hH.2.1 ha hk0 rfl (agr_sR S 12 a _ (some v))
    rw [cell_arr hkd (by omega)] at hk0
    rw [cell_obj hvk (by omega)] at hk1
    refine va_astq (r := (RX7, TX7, 6)) C.1 C.2.1 C.2.2.2.2.2.1 hH.1 hH.2.1 hH.2.2.1 k0 0 k1 9 hk0 rfl hk1 rfl hin d (fun H1 locs1 hP1 hD1 hS1 => ?_)
    rw [hps _ (by rw [cell_arr (S := sR S 12 a i.toNatClampNeg (some v)) (t := 12) hkd (by omega)]; simp [cnt, gR_sR, ay]; rfl)] at hP1 hD1
    exact hX _ _ _ _ h H1 locs1 arr ⟨hP1, hD1, hS1, hH.2.2.2⟩ hl
  · exact h.elim
theorem ok_jald (C : Cx p l R s m args c D cy base c0 z0 nL cc own) (hX : ∀ pc ls st S, X pc ls st S → Mc p l e R s m args below meth c Z D cy base c0 z0 nL pc ls st S) (d : decode cc pc = .ok (.laload, 1)) : Ok p l e R s m args below meth c Z D cy base c0 z0 nL ks cl Q X pc (o_jald (pc + 1)) := by
  intro ls st S h H locs arr hH hl
  unfold o_jald at h
  split at h
  · obtain ⟨ha, hkd, hin, h⟩ := h
    obtain ⟨k0, hk0⟩ := pool_get (cy := cy) ha
    rw [cell_arr hkd (by omega)] at hk0
    exact va_lald C.1 C.2.1 C.2.2.2.2.2.1 hH.1 k0 1 hk0 rfl hin d (hX _ _ _ _ h H locs arr hH hl)
  · exact h.elim
theorem ok_jast (C : Cx p l R s m args c D cy base c0 z0 nL cc own) (hX : ∀ pc ls st S, X pc ls st S → Mc p l e R s m args below meth c Z D cy base c0 z0 nL pc ls st S) (d : decode cc pc = .ok (.lastore, 1)) : Ok p l e R s m args below meth c Z D cy base c0 z0 nL ks cl Q X pc (o_jast (pc + 1)) := by
  intro ls st S h H locs arr hH hl
  unfold o_jast at h
  split at h
  · rename_i x i a r
    obtain ⟨ha, hkd, hin, h⟩ := h
    obtain ⟨k0, hk0⟩ := pool_get (cy := cy) ha
    have hps := fun e => pool_set (S' := sJ S a i.toNatClampNeg x) (e := e) hH.2.1 ha hk0 rfl (agr_sJ S a _ x)
    rw [cell_arr hkd (by omega)] at hk0
    refine va_last C.1 C.2.1 C.2.2.2.2.2.1 hH.1 hH.2.1 hH.2.2.1 k0 1 hk0 rfl hin d (fun H1 locs1 hP1 hD1 hS1 => ?_)
    rw [hps _ (by rw [cell_arr (S := sJ S a i.toNatClampNeg x) (t := 13) hkd (by omega)]; simp [cnt, gJ_sJ, ay]; exact ⟨rfl, rfl⟩)] at hP1 hD1
    exact hX _ _ _ _ h H1 locs1 arr ⟨hP1, hD1, hS1, hH.2.2.2⟩ hl
  · exact h.elim
theorem ok_dald (C : Cx p l R s m args c D cy base c0 z0 nL cc own) (hX : ∀ pc ls st S, X pc ls st S → Mc p l e R s m args below meth c Z D cy base c0 z0 nL pc ls st S) (d : decode cc pc = .ok (.daload, 1)) : Ok p l e R s m args below meth c Z D cy base c0 z0 nL ks cl Q X pc (o_dald (pc + 1)) := by
  intro ls st S h H locs arr hH hl
  unfold o_dald at h
  split at h
  · obtain ⟨ha, hkd, hin, h⟩ := h
    obtain ⟨k0, hk0⟩ := pool_get (cy := cy) ha
    rw [cell_arr hkd (by omega)] at hk0
    exact va_dald C.1 C.2.1 C.2.2.2.2.2.1 hH.1 k0 2 hk0 rfl hin d (hX _ _ _ _ h H locs arr hH hl)
  · exact h.elim
theorem ok_dast (C : Cx p l R s m args c D cy base c0 z0 nL cc own) (hX : ∀ pc ls st S, X pc ls st S → Mc p l e R s m args below meth c Z D cy base c0 z0 nL pc ls st S) (d : decode cc pc = .ok (.dastore, 1)) : Ok p l e R s m args below meth c Z D cy base c0 z0 nL ks cl Q X pc (o_dast (pc + 1)) := by
  intro ls st S h H locs arr hH hl
  unfold o_dast at h
  split at h
  · rename_i x i a r
    obtain ⟨ha, hkd, hin, h⟩ := h
    obtain ⟨k0, hk0⟩ := pool_get (cy := cy) ha
    have hps := fun e => pool_set (S' := sD S a i.toNatClampNeg x) (e := e) hH.2.1 ha hk0 rfl (agr_sD S a _ x)
    rw [cell_arr hkd (by omega)] at hk0
    refine va_dast C.1 C.2.1 C.2.2.2.2.2.1 hH.1 hH.2.1 hH.2.2.1 k0 2 hk0 rfl hin d (fun H1 locs1 hP1 hD1 hS1 => ?_)
    rw [hps _ (by rw [cell_arr (S := sD S a i.toNatClampNeg x) (t := 14) hkd (by omega)]; simp [cnt, gD_sD, ay]; exact ⟨rfl, rfl⟩)] at hP1 hD1
    exact hX _ _ _ _ h H1 locs1 arr ⟨hP1, hD1, hS1, hH.2.2.2⟩ hl
  · exact h.elim
theorem ay_lt (t : Nat) : ay t < 6 := by
  unfold ay
  repeat' split
  all_goals omega
theorem tyL_at (cy : Nat → ClassId) (k : Nat) (h : k < 6) : ∃ ty, (tyL cy)[k]? = some (cy k, ty) := by
  match k, h with
  | 0, _ => exact ⟨_, rfl⟩
  | 1, _ => exact ⟨_, rfl⟩
  | 2, _ => exact ⟨_, rfl⟩
  | 3, _ => exact ⟨_, rfl⟩
  | 4, _ => exact ⟨_, rfl⟩
  | 5, _ => exact ⟨_, rfl⟩
theorem ok_alen (C : Cx p l R s m args c D cy base c0 z0 nL cc own) (hX : ∀ pc ls st S, X pc ls st S → Mc p l e R s m args below meth c Z D cy base c0 z0 nL pc ls st S) (d : decode cc pc = .ok (.arraylength, 1)) : Ok p l e R s m args below meth c Z D cy base c0 z0 nL ks cl Q X pc (o_alen (pc + 1)) := by
  intro ls st S h H locs arr hH hl
  unfold o_alen at h
  split at h
  · rename_i a r
    obtain ⟨ha, hkd, h⟩ := h
    obtain ⟨k0, hk0⟩ := pool_get (cy := cy) ha
    rw [cell_arr rfl hkd] at hk0
    obtain ⟨ty, hty⟩ := tyL_at cy (ay (gK S a)) (ay_lt _)
    exact va_alen C.1 C.2.1 C.2.2.2.2.2.1 hH.1 k0 (ay (gK S a)) hk0 hty rfl d (hX _ _ _ _ h H locs arr hH hl)
  · exact h.elim
theorem new_out {A : Nat → Prop} {S : M9} {q : Nat} {e : va_E} (h : va_D A (pool cy S ++ [(q, e)])) : q ∉ gL S := by
  intro hq
  obtain ⟨k0, hk0⟩ := pool_get (cy := cy) hq
  have hl := (List.getElem?_eq_some_iff.mp hk0).1
  have h1 : (pool cy S ++ [(q, e)])[k0]? = some (q, cellOf cy S q) := by rw [List.getElem?_append_left hl]; exact hk0
  have h2 : (pool cy S ++ [(q, e)])[(pool cy S).length]? = some (q, e) := by simp
  have := h.1 _ _ _ _ h1 h2 rfl
  omega
def zfl (t : Nat) : List Value := (fk t).map (fun b => if b then Value.null else Value.int 0)
theorem fl_new (S : M9) (t a n z : Nat) : fl (nW S t a n z) t a = zfl t := by
  refine List.ext_getElem? fun j => ?_
  rw [fl, zfl, List.getElem?_mapIdx, List.getElem?_map, gR_nW, gI_nW, if_pos ⟨rfl, rfl⟩, if_pos ⟨rfl, rfl⟩]
  rfl
theorem ok_new (C : Cx p l R s m args c D cy base c0 z0 nL cc own) (hX : ∀ pc ls st S, X pc ls st S → Mc p l e R s m args below meth c Z D cy base c0 z0 nL pc ls st S) {t index N : Nat} {Cn : String} {T : u_T} (hc : kCl[t]? = some (Cn, T, N)) (hin : ∀ w ∈ u_ws Cn T N, w ∈ TW) (tys : Nat → FieldType) (hty : ∀ k, k < N → parseFieldDescriptor (T k).2.2.1 = some (tys k)) (hz : ∀ j, j < N → defaultValue (tys j) = vp_V (zfl t) j) (hw : Cond.classLink own index Cn ∈ TW) (hw2 : Cond.instantiable Cn N ∈ TW) (hw3 : Cond.initialized Cn ∈ TW) (d : decode cc pc = .ok (.new index, 3)) : Ok p l e R s m args below meth c Z D cy base c0 z0 nL ks cl Q X pc (o_new t N (pc + 3)) := by
  intro ls st S h H locs arr hH hl
  obtain ⟨h1, h2, h⟩ := h
  have ht : t < 12 := (List.getElem?_eq_some_iff.mp hc).1
  obtain ⟨-, -, -, -, -, -, hb0, hR1, hR2, hTN⟩ := id C
  obtain ⟨hP, hD, hS, e1, e2, e3, e4⟩ := id hH
  refine va_new (D := D) (fs := zfl t) C.1 C.2.1 C.2.2.2.2.1 hin tys hty C.2.2.2.1 (C.2.2.2.2.1 _ hw) (C.2.2.2.2.1 _ hw2) (C.2.2.2.2.1 _ hw3) C.2.2.2.2.2.1 hP hD hS (fun q hq => Nat.le_trans hb0 hq) hc hz (by rw [hR1]; omega) (by rw [hR2]; omega) d (fun q H1 hP1 hD1 hS1 => ?_)
  have hq := new_out hD1
  have hpn := pool_new (cy := cy) (S' := nW S t q 0 N) (e := .inr (t, zfl t)) hq rfl (agr_nW S t q 0 N) (by rw [cell_obj (S := nW S t q 0 N) (t := t) (by rw [gK_nW, if_pos rfl]) ht, fl_new])
  rw [hpn] at hP1 hD1
  have hgc : gC (nW S t q 0 N) = gC S + 1 := rfl
  have hgz : gZ (nW S t q 0 N) = gZ S + N := rfl
  refine W.cs (cells' := gC (nW S t q 0 N) - c0) (slots' := gZ (nW S t q 0 N) - z0) (by omega) (by omega) ?_
  exact hX _ _ _ _ (h q hq) H1 locs arr ⟨hP1, hD1, hS1, by omega, by omega, by omega, by omega⟩ hl
theorem ok_newa_int (C : Cx p l R s m args c D cy base c0 z0 nL cc own) (hX : ∀ pc ls st S, X pc ls st S → Mc p l e R s m args below meth c Z D cy base c0 z0 nL pc ls st S) (hw : Cond.arrayClass (newarray.typeOf .int) ∈ TW) (d : decode cc pc = .ok (.newarray .int, 2)) : Ok p l e R s m args below meth c Z D cy base c0 z0 nL ks cl Q X pc (o_newa (fun t => 17 ≤ t) (pc + 2)) := by
  intro ls st S h H locs arr hH hl
  unfold o_newa at h
  split at h
  · rename_i n r
    obtain ⟨h0, h6, h1, h2, t, hg, h⟩ := h
    obtain ⟨-, -, -, -, -, hK, hb0, hR1, hR2, hTN⟩ := id C
    obtain ⟨hP, hD, hS, e1, e2, e3, e4⟩ := id hH
    refine va_newa (D := D) (atype := .int) (ty := .int) (a0 := (n.toNatClampNeg, (.inl (fun _ => 0)))) C.1 C.2.1 (C.2.2.2.2.1 _ hw) rfl hK hP hD hS (fun q hq => Nat.le_trans hb0 hq) (fun _ => rfl) h0 rfl (by show n.toNatClampNeg * 4 ≤ 536870912; omega) (by rw [hR1]; omega) (by rw [hR2]; omega) d (fun q cA H1 hK1 hP1 hD1 hS1 => ?_)
    have hq := new_out hD1
    have hcA : cA = cy 5 := by
      have g1 := (hK1.2 6 (cA, .int) rfl).2
      have g2 := (hK.2 5 (cy 5, .int) rfl).2
      exact Option.some.inj (g1.symm.trans g2)
    subst hcA
    have hpn := pool_new (cy := cy) (S' := nW S t q n.toNatClampNeg n.toNatClampNeg) (e := .inl (cy 5, n.toNatClampNeg, (.inl (fun _ => 0)))) hq rfl (agr_nW S t q _ _) (by
      rw [cell_arr (S := nW S t q _ _) (t := t) (by rw [gK_nW, if_pos rfl]) (by omega), gN_nW, if_pos rfl]
      rw [cnt_int (by omega), ay_int hg, gI_nW, if_pos ⟨rfl, rfl⟩])
    rw [hpn] at hP1 hD1
    have hgc : gC (nW S t q n.toNatClampNeg n.toNatClampNeg) = gC S + 1 := rfl
    have hgz : gZ (nW S t q n.toNatClampNeg n.toNatClampNeg) = gZ S + n.toNatClampNeg := rfl
    refine W.cs (cells' := gC (nW S t q n.toNatClampNeg n.toNatClampNeg) - c0) (slots' := gZ (nW S t q n.toNatClampNeg n.toNatClampNeg) - z0) (by omega) (by omega) ?_
    exact hX _ _ _ _ (h q hq) H1 locs arr ⟨hP1, hD1, hS1, by omega, by omega, by omega, by omega⟩ hl
  · exact h.elim
theorem ok_newa_byte (C : Cx p l R s m args c D cy base c0 z0 nL cc own) (hX : ∀ pc ls st S, X pc ls st S → Mc p l e R s m args below meth c Z D cy base c0 z0 nL pc ls st S) (hw : Cond.arrayClass (newarray.typeOf .byte) ∈ TW) (d : decode cc pc = .ok (.newarray .byte, 2)) : Ok p l e R s m args below meth c Z D cy base c0 z0 nL ks cl Q X pc (o_newa (fun t => t = 15) (pc + 2)) := by
  intro ls st S h H locs arr hH hl
  unfold o_newa at h
  split at h
  · rename_i n r
    obtain ⟨h0, h6, h1, h2, t, hg, h⟩ := h
    obtain ⟨-, -, -, -, -, hK, hb0, hR1, hR2, hTN⟩ := id C
    obtain ⟨hP, hD, hS, e1, e2, e3, e4⟩ := id hH
    refine va_newa (D := D) (atype := .byte) (ty := .byte) (a0 := (n.toNatClampNeg, (.inl (fun _ => 0)))) C.1 C.2.1 (C.2.2.2.2.1 _ hw) rfl hK hP hD hS (fun q hq => Nat.le_trans hb0 hq) (fun _ => rfl) h0 rfl (by show n.toNatClampNeg * 1 ≤ 536870912; omega) (by rw [hR1]; omega) (by rw [hR2]; omega) d (fun q cA H1 hK1 hP1 hD1 hS1 => ?_)
    have hq := new_out hD1
    have hcA : cA = cy 3 := by
      have g1 := (hK1.2 6 (cA, .byte) rfl).2
      have g2 := (hK.2 3 (cy 3, .byte) rfl).2
      exact Option.some.inj (g1.symm.trans g2)
    subst hcA
    have hpn := pool_new (cy := cy) (S' := nW S t q n.toNatClampNeg n.toNatClampNeg) (e := .inl (cy 3, n.toNatClampNeg, (.inl (fun _ => 0)))) hq rfl (agr_nW S t q _ _) (by
      rw [cell_arr (S := nW S t q _ _) (t := t) (by rw [gK_nW, if_pos rfl]) (by omega), gN_nW, if_pos rfl]
      subst hg; simp [cnt, gI_nW, gJ_nW, gD_nW, ay])
    rw [hpn] at hP1 hD1
    have hgc : gC (nW S t q n.toNatClampNeg n.toNatClampNeg) = gC S + 1 := rfl
    have hgz : gZ (nW S t q n.toNatClampNeg n.toNatClampNeg) = gZ S + n.toNatClampNeg := rfl
    refine W.cs (cells' := gC (nW S t q n.toNatClampNeg n.toNatClampNeg) - c0) (slots' := gZ (nW S t q n.toNatClampNeg n.toNatClampNeg) - z0) (by omega) (by omega) ?_
    exact hX _ _ _ _ (h q hq) H1 locs arr ⟨hP1, hD1, hS1, by omega, by omega, by omega, by omega⟩ hl
  · exact h.elim
theorem ok_newa_boolean (C : Cx p l R s m args c D cy base c0 z0 nL cc own) (hX : ∀ pc ls st S, X pc ls st S → Mc p l e R s m args below meth c Z D cy base c0 z0 nL pc ls st S) (hw : Cond.arrayClass (newarray.typeOf .boolean) ∈ TW) (d : decode cc pc = .ok (.newarray .boolean, 2)) : Ok p l e R s m args below meth c Z D cy base c0 z0 nL ks cl Q X pc (o_newa (fun t => t = 16) (pc + 2)) := by
  intro ls st S h H locs arr hH hl
  unfold o_newa at h
  split at h
  · rename_i n r
    obtain ⟨h0, h6, h1, h2, t, hg, h⟩ := h
    obtain ⟨-, -, -, -, -, hK, hb0, hR1, hR2, hTN⟩ := id C
    obtain ⟨hP, hD, hS, e1, e2, e3, e4⟩ := id hH
    refine va_newa (D := D) (atype := .boolean) (ty := .boolean) (a0 := (n.toNatClampNeg, (.inl (fun _ => 0)))) C.1 C.2.1 (C.2.2.2.2.1 _ hw) rfl hK hP hD hS (fun q hq => Nat.le_trans hb0 hq) (fun _ => rfl) h0 rfl (by show n.toNatClampNeg * 1 ≤ 536870912; omega) (by rw [hR1]; omega) (by rw [hR2]; omega) d (fun q cA H1 hK1 hP1 hD1 hS1 => ?_)
    have hq := new_out hD1
    have hcA : cA = cy 4 := by
      have g1 := (hK1.2 6 (cA, .boolean) rfl).2
      have g2 := (hK.2 4 (cy 4, .boolean) rfl).2
      exact Option.some.inj (g1.symm.trans g2)
    subst hcA
    have hpn := pool_new (cy := cy) (S' := nW S t q n.toNatClampNeg n.toNatClampNeg) (e := .inl (cy 4, n.toNatClampNeg, (.inl (fun _ => 0)))) hq rfl (agr_nW S t q _ _) (by
      rw [cell_arr (S := nW S t q _ _) (t := t) (by rw [gK_nW, if_pos rfl]) (by omega), gN_nW, if_pos rfl]
      subst hg; simp [cnt, gI_nW, gJ_nW, gD_nW, ay])
    rw [hpn] at hP1 hD1
    have hgc : gC (nW S t q n.toNatClampNeg n.toNatClampNeg) = gC S + 1 := rfl
    have hgz : gZ (nW S t q n.toNatClampNeg n.toNatClampNeg) = gZ S + n.toNatClampNeg := rfl
    refine W.cs (cells' := gC (nW S t q n.toNatClampNeg n.toNatClampNeg) - c0) (slots' := gZ (nW S t q n.toNatClampNeg n.toNatClampNeg) - z0) (by omega) (by omega) ?_
    exact hX _ _ _ _ (h q hq) H1 locs arr ⟨hP1, hD1, hS1, by omega, by omega, by omega, by omega⟩ hl
  · exact h.elim
theorem ok_newa_long (C : Cx p l R s m args c D cy base c0 z0 nL cc own) (hX : ∀ pc ls st S, X pc ls st S → Mc p l e R s m args below meth c Z D cy base c0 z0 nL pc ls st S) (hw : Cond.arrayClass (newarray.typeOf .long) ∈ TW) (d : decode cc pc = .ok (.newarray .long, 2)) : Ok p l e R s m args below meth c Z D cy base c0 z0 nL ks cl Q X pc (o_newa (fun t => t = 13) (pc + 2)) := by
  intro ls st S h H locs arr hH hl
  unfold o_newa at h
  split at h
  · rename_i n r
    obtain ⟨h0, h6, h1, h2, t, hg, h⟩ := h
    obtain ⟨-, -, -, -, -, hK, hb0, hR1, hR2, hTN⟩ := id C
    obtain ⟨hP, hD, hS, e1, e2, e3, e4⟩ := id hH
    refine va_newa (D := D) (atype := .long) (ty := .long) (a0 := (n.toNatClampNeg, (.inr (.inl (fun _ => 0))))) C.1 C.2.1 (C.2.2.2.2.1 _ hw) rfl hK hP hD hS (fun q hq => Nat.le_trans hb0 hq) (fun _ => rfl) h0 rfl (by show n.toNatClampNeg * 8 ≤ 536870912; omega) (by rw [hR1]; omega) (by rw [hR2]; omega) d (fun q cA H1 hK1 hP1 hD1 hS1 => ?_)
    have hq := new_out hD1
    have hcA : cA = cy 1 := by
      have g1 := (hK1.2 6 (cA, .long) rfl).2
      have g2 := (hK.2 1 (cy 1, .long) rfl).2
      exact Option.some.inj (g1.symm.trans g2)
    subst hcA
    have hpn := pool_new (cy := cy) (S' := nW S t q n.toNatClampNeg n.toNatClampNeg) (e := .inl (cy 1, n.toNatClampNeg, (.inr (.inl (fun _ => 0))))) hq rfl (agr_nW S t q _ _) (by
      rw [cell_arr (S := nW S t q _ _) (t := t) (by rw [gK_nW, if_pos rfl]) (by omega), gN_nW, if_pos rfl]
      subst hg; simp [cnt, gI_nW, gJ_nW, gD_nW, ay])
    rw [hpn] at hP1 hD1
    have hgc : gC (nW S t q n.toNatClampNeg n.toNatClampNeg) = gC S + 1 := rfl
    have hgz : gZ (nW S t q n.toNatClampNeg n.toNatClampNeg) = gZ S + n.toNatClampNeg := rfl
    refine W.cs (cells' := gC (nW S t q n.toNatClampNeg n.toNatClampNeg) - c0) (slots' := gZ (nW S t q n.toNatClampNeg n.toNatClampNeg) - z0) (by omega) (by omega) ?_
    exact hX _ _ _ _ (h q hq) H1 locs arr ⟨hP1, hD1, hS1, by omega, by omega, by omega, by omega⟩ hl
  · exact h.elim
theorem ok_newa_double (C : Cx p l R s m args c D cy base c0 z0 nL cc own) (hX : ∀ pc ls st S, X pc ls st S → Mc p l e R s m args below meth c Z D cy base c0 z0 nL pc ls st S) (hw : Cond.arrayClass (newarray.typeOf .double) ∈ TW) (d : decode cc pc = .ok (.newarray .double, 2)) : Ok p l e R s m args below meth c Z D cy base c0 z0 nL ks cl Q X pc (o_newa (fun t => t = 14) (pc + 2)) := by
  intro ls st S h H locs arr hH hl
  unfold o_newa at h
  split at h
  · rename_i n r
    obtain ⟨h0, h6, h1, h2, t, hg, h⟩ := h
    obtain ⟨-, -, -, -, -, hK, hb0, hR1, hR2, hTN⟩ := id C
    obtain ⟨hP, hD, hS, e1, e2, e3, e4⟩ := id hH
    refine va_newa (D := D) (atype := .double) (ty := .double) (a0 := (n.toNatClampNeg, (.inr (.inr (.inr (.inl (fun _ => 0))))))) C.1 C.2.1 (C.2.2.2.2.1 _ hw) rfl hK hP hD hS (fun q hq => Nat.le_trans hb0 hq) (fun _ => rfl) h0 rfl (by show n.toNatClampNeg * 8 ≤ 536870912; omega) (by rw [hR1]; omega) (by rw [hR2]; omega) d (fun q cA H1 hK1 hP1 hD1 hS1 => ?_)
    have hq := new_out hD1
    have hcA : cA = cy 2 := by
      have g1 := (hK1.2 6 (cA, .double) rfl).2
      have g2 := (hK.2 2 (cy 2, .double) rfl).2
      exact Option.some.inj (g1.symm.trans g2)
    subst hcA
    have hpn := pool_new (cy := cy) (S' := nW S t q n.toNatClampNeg n.toNatClampNeg) (e := .inl (cy 2, n.toNatClampNeg, (.inr (.inr (.inr (.inl (fun _ => 0))))))) hq rfl (agr_nW S t q _ _) (by
      rw [cell_arr (S := nW S t q _ _) (t := t) (by rw [gK_nW, if_pos rfl]) (by omega), gN_nW, if_pos rfl]
      subst hg; simp [cnt, gI_nW, gJ_nW, gD_nW, ay])
    rw [hpn] at hP1 hD1
    have hgc : gC (nW S t q n.toNatClampNeg n.toNatClampNeg) = gC S + 1 := rfl
    have hgz : gZ (nW S t q n.toNatClampNeg n.toNatClampNeg) = gZ S + n.toNatClampNeg := rfl
    refine W.cs (cells' := gC (nW S t q n.toNatClampNeg n.toNatClampNeg) - c0) (slots' := gZ (nW S t q n.toNatClampNeg n.toNatClampNeg) - z0) (by omega) (by omega) ?_
    exact hX _ _ _ _ (h q hq) H1 locs arr ⟨hP1, hD1, hS1, by omega, by omega, by omega, by omega⟩ hl
  · exact h.elim
theorem ok_newq (C : Cx p l R s m args c D cy base c0 z0 nL cc own) (hX : ∀ pc ls st S, X pc ls st S → Mc p l e R s m args below meth c Z D cy base c0 z0 nL pc ls st S) {index : Nat} (hw : Cond.classLink own index "TrialConverter$State" ∈ TW) (hw2 : Cond.arrayOver (.object "TrialConverter$State") ∈ TN) (d : decode cc pc = .ok (.anewarray index, 3)) : Ok p l e R s m args below meth c Z D cy base c0 z0 nL ks cl Q X pc (o_newa (fun t => t = 12) (pc + 3)) := by
  intro ls st S h H locs arr hH hl
  unfold o_newa at h
  split at h
  · rename_i n r
    obtain ⟨h0, h6, h1, h2, t, rfl, h⟩ := h
    obtain ⟨-, -, -, -, -, hK, hb0, hR1, hR2, hTN⟩ := id C
    obtain ⟨hP, hD, hS, e1, e2, e3, e4⟩ := id hH
    refine va_newq (D := D) (C := "TrialConverter$State") C.1 C.2.1 C.2.2.2.1 (C.2.2.2.2.1 _ hw) (hTN _ hw2) hK hP hD hS (fun q hq => Nat.le_trans hb0 hq) h0 rfl (by omega) (by rw [hR1]; omega) (by rw [hR2]; omega) d (fun q cA H1 hK1 hP1 hD1 hS1 => ?_)
    have hq := new_out hD1
    have hcA : cA = cy 0 := by
      obtain ⟨_, _, _, _, _, g1⟩ := (hK1.2 6 (cA, .object "TrialConverter$State") rfl).2
      obtain ⟨_, _, _, _, _, g2⟩ := (hK.2 0 (cy 0, .object "TrialConverter$State") rfl).2
      exact Option.some.inj (g1.symm.trans g2)
    subst hcA
    have hpn := pool_new (cy := cy) (S' := nW S 12 q n.toNatClampNeg n.toNatClampNeg) (e := .inl (cy 0, n.toNatClampNeg, .inr (.inr (.inr (.inr (fun _ => none)))))) hq rfl (agr_nW S 12 q _ _) (by rw [cell_arr (S := nW S 12 q _ _) (t := 12) (by rw [gK_nW, if_pos rfl]) (by omega), gN_nW, if_pos rfl]; simp [cnt, gR_nW, ay])
    rw [hpn] at hP1 hD1
    have hgc : gC (nW S 12 q n.toNatClampNeg n.toNatClampNeg) = gC S + 1 := rfl
    have hgz : gZ (nW S 12 q n.toNatClampNeg n.toNatClampNeg) = gZ S + n.toNatClampNeg := rfl
    refine W.cs (cells' := gC (nW S 12 q n.toNatClampNeg n.toNatClampNeg) - c0) (slots' := gZ (nW S 12 q n.toNatClampNeg n.toNatClampNeg) - z0) (by omega) (by omega) ?_
    exact hX _ _ _ _ (h q hq) H1 locs arr ⟨hP1, hD1, hS1, by omega, by omega, by omega, by omega⟩ hl
  · exact h.elim
end OKS
