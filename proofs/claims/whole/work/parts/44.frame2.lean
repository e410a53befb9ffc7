/-! A STATE where others are written; its noise and its drawn numbers written -/
theorem KeptR.fr {S S' : M9} {W : Nat → Nat → Prop} {c9 z k ki kc kb kn sz nx : Nat} {inp cod : Nat → Nat} {bit noi : Nat → Int32} (h : KeptR S k ki kc kb kn sz nx inp cod bit noi) (hF : Fr S S' W c9 z) (h3 : ¬ W 3 k) (h1 : ∀ a, ¬ W ki a) (h2 : ∀ a, ¬ W kc a) (h4 : ∀ a, ¬ W kb a) (h5 : ∀ a, ¬ W kn a) : KeptR S' k ki kc kb kn sz nx inp cod bit noi := by
  obtain ⟨i, c, b9, o, kq1, kq2, kq3, kq4, kq5, kq6, kq7, kq8, kq9, kq10, m1, m2, m3, m4⟩ := h
  obtain ⟨x1, x2, -⟩ := hF.1 k kq1
  obtain ⟨y1, y2, -⟩ := hF.2.1 3 k kq1 h3
  exact ⟨i, c, b9, o, x1, x2.trans kq2, by rw [y1]; exact kq3, by rw [y1]; exact kq4, kq5, kq6, by rw [y2]; exact kq7, by rw [y2]; exact kq8, by rw [y2]; exact kq9, by rw [y2]; exact kq10, m1.fr hF (h1 _), m2.fr hF (h2 _), m3.fr hF (h4 _), m4.fr hF (h5 _)⟩
/-- a state stays where nothing of it is written -/
theorem StateR.fr {S S' : M9} {W : Nat → Nat → Prop} {c z p B L : Nat} {C : CSt} (h : StateR S p B L C) (hF : Fr S S' W c z) (h9 : ¬ W 9 p) (hA : ∀ t a, StA S p B t a → ¬ W t a) (h7 : ∀ a, ¬ W 7 a) (hn : ∀ t a, 25 ≤ t → t ≤ 29 → ¬ W t a) : StateR S' p B L C := by
  obtain ⟨su, tb, kp, sn, dr, pq1, pq2, pq3, pq4, pq5, pq6, pq7, pq8, hSet, hSV, hT, hKept, hSeen, ⟨df, hD⟩, hB⟩ := h
  obtain ⟨x1, x2, -⟩ := hF.1 p pq1
  obtain ⟨y1, y2, -⟩ := hF.2.1 9 p pq1 h9
  have hk : ∀ j a, j < 8 → ¬ W (B + j) a := fun j a hj => hA _ a (Or.inr (Or.inl ⟨by omega, by omega⟩))
  exact ⟨su, tb, kp, sn, dr, x1, x2.trans pq2, by rw [y2]; exact pq3, by rw [y2]; exact pq4, by rw [y1]; exact pq5, by rw [y2]; exact pq6, by rw [y2]; exact pq7, by rw [y2]; exact pq8, hSet.fr hF (h7 _) hn, hSV, hT.fr hF (hk 0 _ (by decide)),
    KeptR.fr hKept hF (hA _ _ (Or.inr (Or.inr (Or.inl ⟨rfl, pq6⟩)))) (fun a => hk 1 a (by decide)) (fun a => hk 2 a (by decide)) (fun a => hk 3 a (by decide)) (fun a => hk 4 a (by decide)), SeenR.fr hSeen hF (hA _ _ (Or.inr (Or.inr (Or.inr ⟨rfl, pq7⟩)))) (fun a => hk 5 a (by decide)) (fun a => hk 6 a (by decide)), ⟨df, hD.fr hF (hk 7 _ (by decide))⟩, hB⟩
/-- .. and with the noise and the drawn numbers written -/
theorem StateR.noi {S S' : M9} {W : Nat → Nat → Prop} {c z p B L z' dr : Nat} {C : CSt} {D : Nat → Int32} (h : StateR S p B L C) (hF : Fr S S' W c z) (hW : ∀ t a, W t a → (t = 9 ∧ a = p) ∨ t = B + 7) (hg : gR S' 9 p = gR S 9 p) (hz : gI S' 9 p 2 = nI z') (hd : gR S 9 p 5 = some dr) (hD : ∀ k, k < 10 → gI S' (B + 7) dr k = D k) : StateR S' p B L (setNoi C z') := by
  obtain ⟨su, tb, kp, sn, dr', pq1, pq2, pq3, pq4, pq5, pq6, pq7, pq8, hSet, hSV, hT, hKept, hSeen, ⟨df, dn1, dn2, dn3, dn4⟩, hB⟩ := h
  obtain ⟨x1, x2, -⟩ := hF.1 p pq1
  cases Option.some.inj (pq8.symm.trans hd)
  have hk : ∀ j a, j < 7 → ¬ W (B + j) a := fun j a hj w => by
    rcases hW _ _ w with w | w <;> omega
  have hlo : ∀ t a, t < 100 → ¬ t = 9 → ¬ W t a := fun t a ht h9 w => by
    rcases hW _ _ w with w | w <;> omega
  obtain ⟨u1, u2, u3⟩ := hF.1 dr dn1
  exact ⟨su, tb, kp, sn, dr, x1, x2.trans pq2, by rw [hg]; exact pq3, by rw [hg]; exact pq4, hz, by rw [hg]; exact pq6, by rw [hg]; exact pq7, by rw [hg]; exact pq8, hSet.fr hF (hlo _ _ (by decide) (by decide)) (fun t a h1 h2 => hlo _ _ (by omega) (by omega)), hSV, hT.fr hF (hk 0 _ (by decide)),
    KeptR.fr hKept hF (hlo _ _ (by decide) (by decide)) (fun a => hk 1 a (by decide)) (fun a => hk 2 a (by decide)) (fun a => hk 3 a (by decide)) (fun a => hk 4 a (by decide)), SeenR.fr hSeen hF (hlo _ _ (by decide) (by decide)) (fun a => hk 5 a (by decide)) (fun a => hk 6 a (by decide)), ⟨D, u1, u2.trans dn2, u3.trans dn3, hD⟩, hB⟩
/-- a conversion with noise after k weights from i on: level, bits, noise state, the numbers drawn -/
def nst (A : ASet) (x : Int32) (z0 i : Nat) (D : Nat → Int32) : Nat → Nat × Int32 × Nat × (Nat → Int32)
  | 0 => (0, 0, z0, D)
  | k + 1 =>
    let q := nst A x z0 i D k
    let am := aAm A (aUs A (i + k))
    let z := if am = 0 then q.2.2.1 else nzN q.2.2.1
    let v : Int32 := if am = 0 then 0 else nzI (nzN q.2.2.1) am
    if x + aOf A (aUs A (i + k)) + v < nI (q.1 + aAc A (i + k)) then (q.1, q.2.1, z, fun j => if j = i + k then v else q.2.2.2 j)
    else (q.1 + aAc A (i + k), q.2.1 ||| ((1 : Int32) <<< (nI (i + k) &&& 31)), z, fun j => if j = i + k then v else q.2.2.2 j)
theorem nst_z {A : ASet} {x : Int32} {z0 i : Nat} {D : Nat → Int32} (h0 : z0 ≤ 65535) : ∀ k, (nst A x z0 i D k).2.2.1 ≤ 65535 := by
  intro k
  induction k with
  | zero => exact h0
  | succ k ih =>
    have hb : nzN (nst A x z0 i D k).2.2.1 < 65536 := Nat.mod_lt _ (by decide)
    simp only [nst]
    split <;> (split <;> (simp only []; omega))
