/-! THE CONVERTER: what it holds -/
abbrev CSl : Type := Nat × (Nat → Nat) × Nat
def StV (M : Nat) (C : CSt) : Prop := sNoi C ≤ 65535 ∧ (∀ k, k < aWm (sSet C) → sTab C k ≤ 1023) ∧ (sSn C).1 ≤ M ∧ (∀ k, k < (sSn C).1 → (sSn C).2.2 k ≤ M) ∧ ∀ j, (sKp C).2.2.2.1 j ≤ 99999
theorem StV.mono {M M' : Nat} {C : CSt} (h : StV M C) (hM : M ≤ M') : StV M' C := ⟨h.1, h.2.1, Nat.le_trans h.2.2.1 hM, fun k hk => Nat.le_trans (h.2.2.2.1 k hk) hM, h.2.2.2.2⟩
def pushH (C : CSt) (H : Nat → CSt) (i : Nat) : CSt := if i = 0 then C else H (i - 1)
/-- the text written: n bytes -/
def SbR (S : M9) (sb n : Nat) (W : Nat → Int32) : Prop := ∃ b : Nat, sb ∈ gL S ∧ gK S sb = 1 ∧ gR S 1 sb 0 = some b ∧ gI S 1 sb 1 = 0 ∧ gI S 1 sb 3 = nI n ∧ (b ∈ gL S ∧ gK S b = 15 ∧ gN S b = 16 ∧ ∀ k, k < n → gI S 15 b k = W k) ∧ n ≤ 16 ∧ (∀ k, k < n → ∃ c : Nat, c < 128 ∧ W k = nI c)
theorem SbR.fr {S S' : M9} {W : Nat → Nat → Prop} {c z sb n : Nat} {w : Nat → Int32} (h : SbR S sb n w) (hF : Fr S S' W c z) (h1 : ¬ W 1 sb) (h15 : ∀ a, ¬ W 15 a) : SbR S' sb n w := by
  obtain ⟨b, k1, k2, k3, k4, k5, ⟨k6, k7, k8, k9⟩, k10⟩ := h
  obtain ⟨x1, x2, -⟩ := hF.1 sb k1
  obtain ⟨y1, y2, -⟩ := hF.2.1 1 sb k1 h1
  obtain ⟨u1, u2, u3⟩ := hF.1 b k6
  exact ⟨b, x1, x2.trans k2, by rw [y2]; exact k3, by rw [y1]; exact k4, by rw [y1]; exact k5, ⟨u1, u2.trans k7, u3.trans k8, fun k hk => by rw [(hF.2.1 15 b k6 (h15 b)).1]; exact k9 k hk⟩, k10⟩
def SlV (s : CSl) : Prop := s.1 ≤ 10 ∧ (∀ k, k < s.1 → s.2.1 k ≤ 1023) ∧ s.2.2 ≤ 65535
/-- the converter's fields -/
def CxF (S : M9) (x tx hi rp sb o0 o1 s8 tl fr : Nat) (eA : Int32) : Prop := x ∈ gL S ∧ gK S x = 10 ∧ gR S 10 x 0 = some tx ∧ gI S 10 x 1 = nI tl ∧ gI S 10 x 2 = eA ∧ gR S 10 x 3 = some s8 ∧ gR S 10 x 4 = some hi ∧ gR S 10 x 5 = some rp ∧ gI S 10 x 6 = nI fr ∧ gR S 10 x 7 = some sb ∧ gR S 10 x 8 = some o0 ∧ gR S 10 x 9 = some o1
theorem CxF.fr {S S' : M9} {W : Nat → Nat → Prop} {c z x tx hi rp sb o0 o1 s8 tl fr : Nat} {eA : Int32} (h : CxF S x tx hi rp sb o0 o1 s8 tl fr eA) (hF : Fr S S' W c z) (hn : ¬ W 10 x) : CxF S' x tx hi rp sb o0 o1 s8 tl fr eA := by
  obtain ⟨h1, h2, h3⟩ := h
  obtain ⟨x1, x2, -⟩ := hF.1 x h1
  obtain ⟨y1, y2, -⟩ := hF.2.1 10 x h1 hn
  unfold CxF
  rw [y1, y2]
  exact ⟨x1, x2.trans h2, h3⟩
def TxV (tl : Nat) (T : Nat → Int32) : Prop := tl ≤ 400 ∧ ∀ k, k < tl → ∃ b : Nat, b ≤ 255 ∧ T k = nI b
/-- all of it; M bounds the codes seen, u and v the room -/
def CR (S : M9) (x M u v tl : Nat) (T : Nat → Int32) (eA : Int32) (hn : Nat) (H : Nat → CSt) (C : CSt) (wn : Nat) (Wt : Nat → Int32) (s0 s1 : CSl) (fr : Nat) : Prop :=
  ∃ (tx hi rp sb o0 o1 nx : Nat) (sa ka na Ls : Nat → Nat) (Cs : Nat → CSt), CxF S x tx hi rp sb o0 o1 (sa 8) tl fr eA ∧ ArrR S 60 tx 400 T ∧ TxV tl T ∧ NineR S sa ka na Ls Cs ∧ Cs 8 = C ∧ (∀ j, j < 9 → StV M (Cs j)) ∧ HiR S hi hn nx sa ∧ (∀ i, i < hn → Cs ((nx + 15 - i) % 8) = H i) ∧
    RampW S rp 61 62 ∧ (fr = 0 ∨ (fr = 1 ∧ RampR S rp 61 62 (rgN C) (rcd C))) ∧ SbR S sb wn Wt ∧ (SlotR S o0 63 s0.1 s0.2.1 s0.2.2 ∧ SlotR S o1 64 s1.1 s1.2.1 s1.2.2 ∧ ¬ o0 = o1 ∧ SlV s0 ∧ SlV s1) ∧ (gC S ≤ u ∧ gZ S ≤ v + 4 * sg Ls 0 9)
/-- what is not the converter's -/
def nX (t : Nat) : Prop := t = 11 ∨ t = 13 ∨ t = 14 ∨ t = 16 ∨ (30 ≤ t ∧ t < 60)
section CRL
variable {S S' : M9} {x M u v tl hn wn fr : Nat} {T Wt : Nat → Int32} {eA : Int32} {H : Nat → CSt} {C : CSt} {s0 s1 : CSl}
theorem cr_mono {M' u' v' : Nat} (h : CR S x M u v tl T eA hn H C wn Wt s0 s1 fr) (hM : M ≤ M') (hu : u ≤ u') (hv : v ≤ v') : CR S x M' u' v' tl T eA hn H C wn Wt s0 s1 fr := by
  obtain ⟨tx, hi, rp, sb, o0, o1, nx, sa, ka, na, Ls, Cs, a1, a2, a3, a4, a5, a6, a7, a8, a9, a10, a11, a12, a13⟩ := h
  exact ⟨tx, hi, rp, sb, o0, o1, nx, sa, ka, na, Ls, Cs, a1, a2, a3, a4, a5, fun j hj => (a6 j hj).mono hM, a7, a8, a9, a10, a11, a12, by omega, by omega⟩
/-- another one's writing -/
theorem cr_fr {W : Nat → Nat → Prop} {c z : Nat} (h : CR S x M u v tl T eA hn H C wn Wt s0 s1 fr) (hF : Fr S S' W c z) (hW : ∀ t a, W t a → nX t) : CR S' x M (u + c) (v + z) tl T eA hn H C wn Wt s0 s1 fr := by
  obtain ⟨tx, hi, rp, sb, o0, o1, nx, sa, ka, na, Ls, Cs, a1, a2, a3, a4, a5, a6, a7, a8, a9, a10, a11, ⟨b1, b2, b3, b4, b5⟩, a13⟩ := h
  have hn : ∀ t a, (t < 30 ∨ 60 ≤ t) → ¬ t = 11 → ¬ t = 13 → ¬ t = 14 → ¬ t = 16 → ¬ W t a := fun t a h1 h2 h3 h4 h5 w => by
    have := hW t a w
    unfold nX at this; omega
  have hNF : NineR S' sa ka na Ls Cs := by
    refine ⟨fun j hj => ?_, a4.2⟩
    obtain ⟨h1, h2, h3⟩ := a4.1 j hj
    have n9 := hn 9 (sa j) (by decide) (by decide) (by decide) (by decide) (by decide)
    have hm : sa j ∈ gL S := by obtain ⟨_, _, _, _, _, q, -⟩ := h1; exact q
    have e := (hF.2.1 9 (sa j) hm n9).2.1
    refine ⟨h1.fr hF n9 (fun t a w => ?_) (fun a => hn 7 a (by decide) (by decide) (by decide) (by decide) (by decide)) (fun t a h1 h2 => hn t a (by omega) (by omega) (by omega) (by omega) (by omega)), by rw [e]; exact h2, by rw [e]; exact h3⟩
    rcases w with w | w | w | w <;> exact hn t a (by omega) (by omega) (by omega) (by omega) (by omega)
  have q := fun t a (h : (t < 30 ∨ 60 ≤ t) ∧ ¬ t = 11 ∧ ¬ t = 13 ∧ ¬ t = 14 ∧ ¬ t = 16) => hn t a h.1 h.2.1 h.2.2.1 h.2.2.2.1 h.2.2.2.2
  refine ⟨tx, hi, rp, sb, o0, o1, nx, sa, ka, na, Ls, Cs, a1.fr hF (q _ _ (by decide)), a2.fr hF (q _ _ (by decide)), a3, hNF, a5, a6, a7.fr hF (q _ _ (by decide)) (fun a => q _ _ (by decide)), a8, a9.fr hF (q _ _ (by decide)), ?_, a11.fr hF (q _ _ (by decide)) (fun a => q _ _ (by decide)), ⟨b1.fr hF (q _ _ (by decide)) (fun a => q _ _ (by decide)), b2.fr hF (q _ _ (by decide)) (fun a => q _ _ (by decide)), b3, b4, b5⟩, by have := hF.2.2.1; omega, by have := hF.2.2.2; omega⟩
  rcases a10 with w | ⟨w1, w2⟩
  · exact Or.inl w
  · exact Or.inr ⟨w1, RampQ.fr w2 hF (q _ _ (by decide)) (fun a => q _ _ (by decide)) (fun a => q _ _ (by decide))⟩
/-- what a question needs -/
def CQ (S : M9) (x st M L : Nat) (C : CSt) : Prop := x ∈ gL S ∧ gK S x = 10 ∧ gR S 10 x 3 = some st ∧ StateR S st 164 L C ∧ StV M C
theorem cr_q (h : CR S x M u v tl T eA hn H C wn Wt s0 s1 fr) : ∃ st L, CQ S x st M L C := by
  obtain ⟨tx, hi, rp, sb, o0, o1, nx, sa, ka, na, Ls, Cs, a1, a2, a3, a4, a5, a6, -⟩ := h
  subst a5
  exact ⟨sa 8, Ls 8, a1.1, a1.2.1, a1.2.2.2.2.2.1, (a4.1 8 (by decide)).1, a6 8 (by decide)⟩
end CRL
