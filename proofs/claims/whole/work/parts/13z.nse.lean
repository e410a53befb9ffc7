/-! THE THROW OF NoSuchElementException, whose constructor passes its text on by another entry -/
def thr_NL : List Cond := []
theorem thr_N : ∀ w ∈ thr_NL, w ∈ TW ∨ (w ∈ TN ∧ w.onTables = true) := fun _ h => absurd h List.not_mem_nil
section OKC
variable {p : Program} {l : Launch} {e : Env} {R : Room} {s : State} {m : MethodId} {args : Array Value} {below : List Frame} {meth : Method} {c : Code} {Z : State → Prop} {D : va_G} {cy : Nat → ClassId} {base c0 z0 nL : Nat} {cc : ByteArray} {own : String} {ks : Nat → Nat} {cl : CP} {Q : QP} {X : KP} {pc d : Nat} {S0 : M9} {xt : List ExceptionTableEntry}
theorem ok_throwN (C : Cx p l R s m args c D cy base c0 z0 nL cc own) (hX : ∀ pc ls st S, X pc ls st S → Mc p l e R s m args below meth c Z D cy base c0 z0 nL pc ls st S) (Cy0 : Cy l R s args below meth c Z ks D cy base c0 z0 d Q S0 []) {text : String} {ik is ic : Nat} (hwk : Cond.classLink own ik "java/util/NoSuchElementException" ∈ TW) (hwi : Cond.initialized "java/util/NoSuchElementException" ∈ TW) (hstr : (own, is, text) ∈ strG) (hat : ∀ w ∈ thr_NL, w ∈ TW ∨ (w ∈ TN ∧ w.onTables = true))
    (d0 : decode cc pc = .ok (.new ik, 3)) (d3 : decode cc (pc + 3) = .ok (.dup, 1)) (d4 : decode cc (pc + 4) = .ok (.ldc_w is, 3)) (d6 : decode cc (pc + 7) = .ok (.invokespecial ic, 3)) (d9 : decode cc (pc + 10) = .ok (.athrow, 1)) : Ok p l e R s m args below meth c Z D cy base c0 z0 nL ks cl Q X pc (o_throw "java/util/NoSuchElementException") := by
  sorry
end OKC
