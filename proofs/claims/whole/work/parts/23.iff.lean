/-! A METHOD'S RUN by equations: at each place of the code, what the instruction there asks for -/
section RUNIFF
variable {ks : Nat → Nat} {cl : CP} {Q : QP} {tb : List (Nat × Op)}
theorem nd_uniq : ∀ {tb : List (Nat × Op)}, (tb.map fun q => q.1).Nodup → ∀ {pc : Nat} {o1 o2 : Op}, (pc, o1) ∈ tb → (pc, o2) ∈ tb → o1 = o2 := by
  intro tb
  induction tb with
  | nil => intro _ pc o1 o2 h; cases h
  | cons q r ih =>
    intro hn pc o1 o2 h1 h2
    rw [List.map_cons, List.nodup_cons] at hn
    rcases List.mem_cons.mp h1 with e1 | e1
    · rcases List.mem_cons.mp h2 with e2 | e2
      · rw [← e1] at e2
        injection e2 with z1 z2
        exact z2.symm
      · exact (hn.1 (by rw [← e1]; exact List.mem_map.mpr ⟨_, e2, rfl⟩)).elim
    · rcases List.mem_cons.mp h2 with e2 | e2
      · exact (hn.1 (by rw [← e2]; exact List.mem_map.mpr ⟨_, e1, rfl⟩)).elim
      · exact ih hn.2 e1 e2
theorem Run.iff (hcl : MonoC cl) (hm : MonoT tb) (hn : (tb.map fun q => q.1).Nodup) {pc : Nat} {op : Op} (hq : (pc, op) ∈ tb) {ls : List (Option Value)} {st : List Value} {S : M9} : Run ks cl Q tb pc ls st S ↔ op ks cl Q (Run ks cl Q tb) ls st S := by
  refine ⟨fun h => ?_, fun h => Run.step hcl hm hq h⟩
  obtain ⟨o2, h1, h2⟩ := h (fun pc ls st S => ∃ op, (pc, op) ∈ tb ∧ op ks cl Q (Run ks cl Q tb) ls st S) (fun q hq ls st S hh => ⟨q.2, hq, hm q hq ks cl hcl Q Q _ _ ls st S (fun _ _ h => h) (fun pc ls st S hx => by
    obtain ⟨o3, g1, g2⟩ := hx
    exact Run.step hcl hm g1 g2) hh⟩)
  rw [nd_uniq hn hq h1]
  exact h2
end RUNIFF
