/-! THE LAW: what holds at its loop's head -/
def BV (C : CSt) (hn : Nat) (H : Nat → CSt) : Prop := BitV C ∧ ∀ i, i < hn → BitV (H i)
def OutR (S : M9) (ol od : Nat) : Prop := (ol ∈ gL S ∧ gK S ol = 13 ∧ gN S ol = 1) ∧ (od ∈ gL S ∧ gK S od = 14 ∧ gN S od = 1)
def LI (S : M9) (x m ol od : Nat) (ad : Nat → Nat) (n : Nat) : Prop := ∃ (M u v tl : Nat) (T : Nat → Int32) (eA : Int32) (hn : Nat) (H : Nat → CSt) (C : CSt) (wn : Nat) (Wt : Nat → Int32) (s0 s1 : CSl) (fr : Nat),
  CR S x M u v tl T eA hn H C wn Wt s0 s1 fr ∧ MoR S m ad tl T eA hn H C wn Wt s0 s1 ∧ BV C hn H ∧ OutR S ol od ∧ M ≤ 16 * n ∧ u ≤ 500 + 40 * n ∧ v ≤ 300000 + 100 * n
theorem BV.push {C C' : CSt} {hn : Nat} {H : Nat → CSt} (h : BV C hn H) (h' : BitV C') : BV C' (min (hn + 1) 8) (pushH C H) := by
  refine ⟨h', fun i hi => ?_⟩
  unfold pushH
  by_cases e : i = 0
  · rw [if_pos e]; exact h.1
  · rw [if_neg e]; exact h.2 (i - 1) (by omega)
theorem OutR.fr {S S' : M9} {W : Nat → Nat → Prop} {c z ol od : Nat} (h : OutR S ol od) (hF : Fr S S' W c z) : OutR S' ol od := by
  obtain ⟨⟨h1, h2, h3⟩, h4, h5, h6⟩ := h
  obtain ⟨a1, a2, a3⟩ := hF.1 ol h1
  obtain ⟨b1, b2, b3⟩ := hF.1 od h4
  exact ⟨⟨a1, a2.trans h2, a3.trans h3⟩, b1, b2.trans h5, b3.trans h6⟩
section LIL
variable {S S' S2 : M9} {x m ol od n M u v tl hn wn fr : Nat} {ad : Nat → Nat} {T Wt : Nat → Int32} {eA : Int32} {H : Nat → CSt} {C : CSt} {s0 s1 : CSl}
theorem cr_VC (h : CR S x M u v tl T eA hn H C wn Wt s0 s1 fr) (hB : BV C hn H) : VC M C ∧ ∀ i, i < hn → VC M (H i) := by
  obtain ⟨tx, hi, rp, sb, o0, o1, nx, sa, ka, na, Ls, Cs, a1, a2, a3, a4, a5, a6, a7, a8, a9, a10, a11, a12, a13⟩ := h
  have hs : ∀ j, j < 9 → SetV (sSet (Cs j)) ∧ ((sKp (Cs j)).1 ≤ 20 ∧ (sKp (Cs j)).2.1 < 20) := fun j hj => by
    obtain ⟨su, tb, kp, sn, dr, pq1, pq2, pq3, pq4, pq5, pq6, pq7, pq8, hSet, hSV, hTn, hKept, -⟩ := (a4.1 j hj).1
    obtain ⟨i, c, b, o, k1, k2, k3, k4, k5, -⟩ := hKept
    exact ⟨hSV, k5⟩
  refine ⟨?_, fun i hi2 => ?_⟩
  · have := hs 8 (by decide)
    have h6 := a6 8 (by decide)
    rw [a5] at this h6
    exact ⟨this.1, this.2, h6, hB.1⟩
  · have e := a8 i hi2
    have hj : (nx + 15 - i) % 8 < 9 := by omega
    have := hs _ hj
    have h6 := a6 _ hj
    rw [e] at this h6
    exact ⟨this.1, this.2, h6, hB.2 i hi2⟩
theorem li_mk {n' : Nat} (hR : CR S x M u v tl T eA hn H C wn Wt s0 s1 fr) (hM : MoR S' m ad tl T eA hn H C wn Wt s0 s1) (hF : Fr S S' (fun t _ => nM t) 0 0) (hB : BV C hn H) (hO : OutR S ol od) (b1 : M ≤ 16 * n') (b2 : u ≤ 500 + 40 * n') (b3 : v ≤ 300000 + 100 * n') : LI S' x m ol od ad n' := by
  have h := cr_fr hR hF (fun t a w => nM_nX w)
  exact ⟨M, u + 0, v + 0, tl, T, eA, hn, H, C, wn, Wt, s0, s1, fr, h, hM, hB, hO.fr hF, b1, b2, b3⟩
/-- the class's writing leaves the model -/
theorem mo_cls {c z : Nat} (hM : MoR S m ad tl T eA hn H C wn Wt s0 s1) (hF : Fr S S' (fun t _ => ¬ nX t) c z) : MoR S' m ad tl T eA hn H C wn Wt s0 s1 := hM.cls hF (fun t a w q => w (nM_nX q))
theorem mo_sC (hM : MoR S m ad tl T eA hn H C wn Wt s0 s1) : MoR (sC S 1 6) m ad tl T eA hn H C wn Wt s0 s1 := hM.cls (Fr.sC S 1 6) (fun _ _ w => w.elim)
theorem cr_sC (h : CR S x M u v tl T eA hn H C wn Wt s0 s1 fr) : CR (sC S 1 6) x M (u + 1) (v + 6) tl T eA hn H C wn Wt s0 s1 fr := cr_fr h (Fr.sC S 1 6) (fun _ _ w => w.elim)
theorem cr_sJ {a k : Nat} {w : Int64} (h : CR S x M u v tl T eA hn H C wn Wt s0 s1 fr) : CR (sJ S a k w) x M u v tl T eA hn H C wn Wt s0 s1 fr := by
  have := cr_fr h (Fr.sJ S a k w) (fun t a w => by unfold nX; omega)
  exact this
theorem mo_sJ {a k : Nat} {w : Int64} (hM : MoR S m ad tl T eA hn H C wn Wt s0 s1) : MoR (sJ S a k w) m ad tl T eA hn H C wn Wt s0 s1 := hM.cls (Fr.sJ S a k w) (fun t a w => by unfold nM; omega)
theorem cr_sD {a k : Nat} {w : UInt64} (h : CR S x M u v tl T eA hn H C wn Wt s0 s1 fr) : CR (sD S a k w) x M u v tl T eA hn H C wn Wt s0 s1 fr := by
  have := cr_fr h (Fr.sD S a k w) (fun t a w => by unfold nX; omega)
  exact this
theorem mo_sD {a k : Nat} {w : UInt64} (hM : MoR S m ad tl T eA hn H C wn Wt s0 s1) : MoR (sD S a k w) m ad tl T eA hn H C wn Wt s0 s1 := hM.cls (Fr.sD S a k w) (fun t a w => by unfold nM; omega)
theorem o_sJ {k : Nat} {w : Int64} (h : OutR S ol od) : OutR (sJ S ol k w) ol od := h.fr (Fr.sJ S ol k w)
theorem gJ_keep (hO : OutR S ol od) (hF : Fr S S2 (fun t _ => nM t) 0 0) : gJ S2 ol = gJ S ol := (hF.2.1 13 ol hO.1.1 (fun w => by unfold nM at w; omega)).2.2.1 rfl
theorem gD_keep (hO : OutR S ol od) (hF : Fr S S2 (fun t _ => nM t) 0 0) : gD S2 od = gD S od := (hF.2.1 14 od hO.2.1 (fun w => by unfold nM at w; omega)).2.2.2 rfl
theorem gJ_at {k : Nat} {w : Int64} : gJ (sJ S ol k w) ol k = w := by
  rw [gJ_sJ, if_pos rfl, va_up_self]
theorem gD_at {k : Nat} {w : UInt64} : gD (sD S od k w) od k = w := by
  rw [gD_sD, if_pos rfl, va_up_self]
end LIL
/-- the model's call behind the class's: k what was thrown, w the answer told -/
def MdC (ks : Nat → Nat) (nm : Nat) (as : List Value) (S1 : M9) (x m ol od : Nat) (ad : Nat → Nat) (n k : Nat) : Prop := ∀ (d : Nat) (Q2 : QP), (∀ S2 w, LI S2 x m ol od ad n → gI S2 11 m 6 = nI k → (k = 0 → gJ S2 ol 0 = w.toInt64) → Q2 (.inl (some (.int w))) S2) → WG ks (d + 20) nm as S1 Q2
/-- the same for a question that never throws -/
def MdQ (ks : Nat → Nat) (nm : Nat) (as : List Value) (S1 : M9) (x m ol od : Nat) (ad : Nat → Nat) (n : Nat) (w : Int32) : Prop := ∀ (d : Nat) (Q2 : QP), (∀ S2, LI S2 x m ol od ad n → Q2 (.inl (some (.int w))) S2) → WG ks (d + 20) nm as S1 Q2
def MdF (S1 : M9) (m ol od : Nat) : Prop := (m ∈ gL S1 ∧ gK S1 m = 11) ∧ OutR S1 ol od
