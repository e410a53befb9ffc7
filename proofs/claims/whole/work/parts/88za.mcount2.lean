/-! counting the codes of a ramp -/
theorem cnW_0 {f : Nat → Nat} {c : Nat} : ∀ m, (∀ x, x < m → ¬ f x = c) → cnW f m c = 0 := by
  intro m
  induction m with
  | zero => intro _; rfl
  | succ m ih =>
    intro h
    simp only [cnW]
    rw [ih (fun x hx => h x (by omega)), if_neg (h m (by omega))]
theorem ls_le {f : Nat → Nat} : ∀ m x, x < m → lsF f m ≤ f x := by
  intro m
  induction m with
  | zero => intro x hx; exact absurd hx (Nat.not_lt_zero x)
  | succ m ih =>
    intro x hx
    simp only [lsF]
    by_cases e : x = m
    · subst e; exact Nat.min_le_right _ _
    · exact Nat.le_trans (Nat.min_le_left _ _) (ih x (by omega))
theorem gs_ge {f : Nat → Nat} : ∀ m x, x < m → f x ≤ gsF f m := by
  intro m
  induction m with
  | zero => intro x hx; exact absurd hx (Nat.not_lt_zero x)
  | succ m ih =>
    intro x hx
    simp only [gsF]
    by_cases e : x = m
    · subst e; exact Nat.le_max_right _ _
    · exact Nat.le_trans (ih x (by omega)) (Nat.le_max_left _ _)
def ixF (f : Nat → Nat) (n c : Nat) : Nat := if cnW f n c = 0 then 0 else 1
def mcF (f : Nat → Nat) (n c : Nat) : Nat := if cnW f n c = 0 then 1 else 0
theorem sg_first {F : Nat → Nat} : ∀ r a, sg F a (r + 1) = F a + sg F (a + 1) r := by
  intro r
  induction r with
  | zero => intro a; simp only [sg, Nat.add_zero, Nat.zero_add]
  | succ r ih =>
    intro a
    have := ih a
    simp only [sg] at this ⊢
    rw [show a + 1 + r = a + (r + 1) by omega]
    omega
theorem sg_one {F G : Nat → Nat} {a k : Nat} (h : ∀ c, ¬ c = k → G c = F c) : ∀ r, (a ≤ k → k < a + r → sg G a r + F k = sg F a r + G k) ∧ (¬ (a ≤ k ∧ k < a + r) → sg G a r = sg F a r) := by
  intro r
  induction r with
  | zero => exact ⟨fun h1 h2 => absurd h2 (by omega), fun _ => rfl⟩
  | succ r ih =>
    obtain ⟨i1, i2⟩ := ih
    simp only [sg]
    refine ⟨fun h1 h2 => ?_, fun h1 => ?_⟩
    · by_cases e : k = a + r
      · have := i2 (by omega)
        rw [← e]; omega
      · have := i1 h1 (by omega)
        rw [h (a + r) (by omega)]; omega
    · rw [h (a + r) (by omega), i2 (by omega)]
theorem df_ix {f : Nat → Nat} {a r : Nat} : ∀ m, (∀ x, x < m → a ≤ f x ∧ f x < a + r) → sg (ixF f m) a r = dfF f m := by
  intro m
  induction m with
  | zero =>
    intro _
    have : ∀ r, sg (ixF f 0) a r = 0 := by
      intro r
      induction r with
      | zero => rfl
      | succ r ih => simp only [sg]; rw [ih]; rfl
    exact this r
  | succ m ih =>
    intro h
    have ih := ih (fun x hx => h x (by omega))
    obtain ⟨h1, h2⟩ := h m (by omega)
    have ho : ∀ c, ¬ c = f m → ixF f (m + 1) c = ixF f m c := fun c hc => by
      have e : cnW f (m + 1) c = cnW f m c := by
        show cnW f m c + (if f m = c then 1 else 0) = _
        rw [if_neg (fun e => hc e.symm), Nat.add_zero]
      unfold ixF
      rw [e]
    have e := (sg_one (F := ixF f m) (G := ixF f (m + 1)) ho r).1 h1 h2
    have e1 : ixF f (m + 1) (f m) = 1 := by
      have e : cnW f (m + 1) (f m) = cnW f m (f m) + 1 := by
        show cnW f m (f m) + (if f m = f m then 1 else 0) = _
        rw [if_pos rfl]
      unfold ixF
      rw [e, if_neg (Nat.succ_ne_zero _)]
    have e2 : dfF f (m + 1) = dfF f m + if cnW f m (f m) = 0 then 1 else 0 := rfl
    rw [e1, ih] at e
    rw [e2]
    unfold ixF at e
    by_cases c : cnW f m (f m) = 0
    · rw [if_pos c] at e ⊢; unfold ixF; omega
    · rw [if_neg c] at e ⊢; unfold ixF; omega
theorem ix_mc {f : Nat → Nat} {n a : Nat} : ∀ r, sg (ixF f n) a r + sg (mcF f n) a r = r := by
  intro r
  induction r with
  | zero => rfl
  | succ r ih =>
    simp only [sg]
    have : ixF f n (a + r) + mcF f n (a + r) = 1 := by
      unfold ixF mcF
      by_cases c : cnW f n (a + r) = 0
      · rw [if_pos c, if_pos c]
      · rw [if_neg c, if_neg c]
    omega
/-- the codes missing between the least and the greatest -/
theorem rMiss_e {C : CSt} : rMiss C = nI (sg (mcF (rcd C) (rgN C + 1)) (lsF (rcd C) (rgN C + 1)) (gsF (rcd C) (rgN C + 1) + 1 - lsF (rcd C) (rgN C + 1))) := by
  obtain ⟨l1, l2⟩ := ls_gs (f := rcd C) (rgN C)
  have h1 := df_ix (f := rcd C) (a := lsF (rcd C) (rgN C + 1)) (r := gsF (rcd C) (rgN C + 1) + 1 - lsF (rcd C) (rgN C + 1)) (rgN C + 1) (fun x hx => ⟨ls_le _ x hx, by have := gs_ge (f := rcd C) _ x hx; omega⟩)
  have h2 := ix_mc (f := rcd C) (n := rgN C + 1) (a := lsF (rcd C) (rgN C + 1)) (gsF (rcd C) (rgN C + 1) + 1 - lsF (rcd C) (rgN C + 1))
  unfold rMiss
  rw [pk_sub (by omega), nI_1, pk_sub (by omega)]
  exact congrArg nI (by omega)
/-- the greatest fault -/
def gfF (f : Nat → Nat) : Nat → Nat
  | 0 => 0
  | x + 1 => if gfF f x < erF f x then erF f x else gfF f x
theorem gf_wi {f : Nat → Nat} : ∀ r, gfF f (r + 1) = erF f (wiF f r) := by
  intro r
  induction r with
  | zero =>
    show (if 0 < erF f 0 then erF f 0 else 0) = erF f 0
    split <;> omega
  | succ r ih =>
    show (if gfF f (r + 1) < erF f (r + 1) then erF f (r + 1) else gfF f (r + 1)) = erF f (if erF f (wiF f r) < erF f (r + 1) then r + 1 else wiF f r)
    rw [ih]
    split <;> rfl
theorem gf_le {f : Nat → Nat} {k : Nat} : ∀ n, gfF f n ≤ k ↔ ∀ x, x < n → erF f x ≤ k := by
  intro n
  induction n with
  | zero => exact ⟨fun _ x hx => absurd hx (Nat.not_lt_zero x), fun _ => Nat.zero_le _⟩
  | succ n ih =>
    show (if gfF f n < erF f n then erF f n else gfF f n) ≤ k ↔ _
    constructor
    · intro h x hx
      by_cases e : x = n
      · subst e
        split at h <;> omega
      · refine ih.mp ?_ x (by omega)
        split at h <;> omega
    · intro h
      have h1 := ih.mpr (fun x hx => h x (by omega))
      have h2 := h n (by omega)
      split <;> omega
theorem rcS_0 {C : CSt} {sh : Int32} (h : aWm (sSet C) ≤ 30) : rcS C (-1) sh = rcd C := by
  funext x
  unfold rcS rcd
  rw [qst_m1 (sh' := 0) h]
