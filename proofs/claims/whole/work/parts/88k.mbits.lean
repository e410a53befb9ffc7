/-! bits as sums of powers; a conversion with given noises -/
theorem sm_32 : ∀ n, n < 32 → ((nI n &&& 31).toBitVec.smod 32).toNat = n := by decide +kernel
theorem bit_at {B k : Nat} (hB : B < 2 ^ 31) (hk : k < 32) : (nI B >>> (nI k &&& 31)) &&& 1 = nI (B / 2 ^ k % 2) := by
  rw [pk_shrN hB (nI k &&& 31) k (sm_32 k hk)]
  exact pk_andN (m := 1) (Nat.lt_of_le_of_lt (Nat.div_le_self B (2 ^ k)) (by omega)) 1 (by decide)
theorem bit_one {k : Nat} (hk : k < 31) : (1 : Int32) <<< (nI k &&& 31) = nI (2 ^ k) := by
  have := pk_shlN (n := 1) (nI k &&& 31) k (sm_32 k (by omega)) (by rw [Nat.one_mul]; exact Nat.pow_lt_pow_right (by decide) (by omega))
  rw [Nat.one_mul] at this
  exact this
theorem nI_or (a b : Nat) : nI a ||| nI b = nI (a ||| b) := by
  apply Int32.toBitVec_inj.1
  rw [Int32.toBitVec_or]
  show BitVec.ofNat 32 a ||| BitVec.ofNat 32 b = BitVec.ofNat 32 (a ||| b)
  apply BitVec.eq_of_getLsbD_eq
  intro i hi
  simp [hi]
theorem or_pow {B w : Nat} (h : B < 2 ^ w) : B ||| 2 ^ w = B + 2 ^ w := by
  have := Nat.two_pow_add_eq_or_of_lt h 1
  rw [Nat.mul_one] at this
  rw [Nat.or_comm, ← this, Nat.add_comm]
theorem bit_add {B w : Nat} (h : B < 2 ^ w) (hw : w < 31) : nI B ||| ((1 : Int32) <<< (nI w &&& 31)) = nI (B + 2 ^ w) := by
  rw [bit_one hw, nI_or, or_pow h]
theorem bit_lo {B w j : Nat} (hj : j < w) : (B + 2 ^ w) / 2 ^ j % 2 = B / 2 ^ j % 2 := by
  have e : (2 : Nat) ^ w = 2 ^ j * (2 * 2 ^ (w - j - 1)) := by
    rw [← Nat.pow_succ', ← Nat.pow_add]
    exact congrArg _ (by omega)
  rw [e, Nat.add_mul_div_left _ _ (Nat.two_pow_pos j), Nat.add_mul_mod_self_left]
theorem bit_hi {B w : Nat} (h : B < 2 ^ w) : (B + 2 ^ w) / 2 ^ w % 2 = 1 := by
  have := Nat.add_mul_div_left B 1 (Nat.two_pow_pos w)
  rw [Nat.mul_one] at this
  rw [this, Nat.div_eq_of_lt h]
theorem bit_z {B w : Nat} (h : B < 2 ^ w) : B / 2 ^ w % 2 = 0 := by rw [Nat.div_eq_of_lt h]
theorem sg_ext2 {f g : Nat → Nat} : ∀ k, (∀ j, j < k → f j = g j) → sg f 0 k = sg g 0 k := by
  intro k
  induction k with
  | zero => intro _; rfl
  | succ k ih =>
    intro h
    simp only [sg, Nat.zero_add]
    rw [ih (fun j hj => h j (by omega)), h k (by omega)]
/-- level and bits, the bits as a number -/
def wst (A : ASet) (x sd sh : Int32) (i : Nat) (N : Nat → Int32) : Nat → Nat × Nat
  | 0 => (0, 0)
  | k + 1 => if x + aOf A (aUs A (i + k)) + (if nI (i + k) = sd then sh else 0) + N (i + k) < nI ((wst A x sd sh i N k).1 + aAc A (i + k)) then wst A x sd sh i N k else ((wst A x sd sh i N k).1 + aAc A (i + k), (wst A x sd sh i N k).2 + 2 ^ (i + k))
section MSTL
variable {A : ASet} {x sd sh : Int32} {i k : Nat} {N : Nat → Int32} {T : Nat → Nat}
theorem wst_lt (c : x + aOf A (aUs A (i + k)) + (if nI (i + k) = sd then sh else 0) + N (i + k) < nI ((wst A x sd sh i N k).1 + aAc A (i + k))) : wst A x sd sh i N (k + 1) = wst A x sd sh i N k := if_pos c
theorem wst_ge (c : ¬ x + aOf A (aUs A (i + k)) + (if nI (i + k) = sd then sh else 0) + N (i + k) < nI ((wst A x sd sh i N k).1 + aAc A (i + k))) : wst A x sd sh i N (k + 1) = ((wst A x sd sh i N k).1 + aAc A (i + k), (wst A x sd sh i N k).2 + 2 ^ (i + k)) := if_neg c
theorem wst_cs : wst A x sd sh i N (k + 1) = wst A x sd sh i N k ∨ wst A x sd sh i N (k + 1) = ((wst A x sd sh i N k).1 + aAc A (i + k), (wst A x sd sh i N k).2 + 2 ^ (i + k)) := by
  by_cases c : x + aOf A (aUs A (i + k)) + (if nI (i + k) = sd then sh else 0) + N (i + k) < nI ((wst A x sd sh i N k).1 + aAc A (i + k))
  · exact Or.inl (wst_lt c)
  · exact Or.inr (wst_ge c)
end MSTL
section MSTL
variable {A : ASet} {x sd sh : Int32} {i : Nat} {N : Nat → Int32}
theorem wst_b : ∀ k, (wst A x sd sh i N k).2 < 2 ^ (i + k) := by
  intro k
  induction k with
  | zero => exact Nat.two_pow_pos _
  | succ k ih =>
    have h2 : (2 : Nat) ^ (i + (k + 1)) = 2 ^ (i + k) + 2 ^ (i + k) := by rw [← Nat.add_assoc, Nat.pow_succ, Nat.mul_two]
    rcases wst_cs (A := A) (x := x) (sd := sd) (sh := sh) (i := i) (N := N) (k := k) with e | e
    · rw [e]; omega
    · rw [e]
      show (wst A x sd sh i N k).2 + 2 ^ (i + k) < _
      omega
/-- bits that stand are kept -/
theorem wst_k : ∀ r k j, j < i + k → (wst A x sd sh i N (k + r)).2 / 2 ^ j % 2 = (wst A x sd sh i N k).2 / 2 ^ j % 2 := by
  intro r
  induction r with
  | zero => intro k j _; rfl
  | succ r ih =>
    intro k j hj
    rw [← ih k j hj]
    show (wst A x sd sh i N (k + r + 1)).2 / 2 ^ j % 2 = _
    rcases wst_cs (A := A) (x := x) (sd := sd) (sh := sh) (i := i) (N := N) (k := k + r) with e | e
    · rw [e]
    · rw [e]
      exact bit_lo (by omega)
theorem wst_lo : ∀ k j, j < i → (wst A x sd sh i N k).2 / 2 ^ j % 2 = 0 := by
  intro k j hj
  have := wst_k (A := A) (x := x) (sd := sd) (sh := sh) (N := N) k 0 j (i := i) (by omega)
  rw [Nat.zero_add] at this
  rw [this]
  show 0 / 2 ^ j % 2 = 0
  rw [Nat.zero_div]
theorem wst_l : ∀ k, i = 0 → k ≤ 30 → (wst A x sd sh i N k).1 = sg (lvF A (nI (wst A x sd sh i N k).2)) 0 k := by
  intro k hi
  subst hi
  induction k with
  | zero => intro _; rfl
  | succ k ih =>
    intro hk
    have ih := ih (by omega)
    have hb := wst_b (A := A) (x := x) (sd := sd) (sh := sh) (i := 0) (N := N) k
    have hb2 := wst_b (A := A) (x := x) (sd := sd) (sh := sh) (i := 0) (N := N) (k + 1)
    rw [Nat.zero_add] at hb hb2
    have p1 : (2 : Nat) ^ k ≤ 2 ^ 30 := Nat.pow_le_pow_right (by decide) (by omega)
    have p2 : (2 : Nat) ^ (k + 1) ≤ 2 ^ 30 := Nat.pow_le_pow_right (by decide) (by omega)
    have hs : sg (lvF A (nI (wst A x sd sh 0 N (k + 1)).2)) 0 k = sg (lvF A (nI (wst A x sd sh 0 N k).2)) 0 k := by
      refine sg_ext2 k (fun j hj => ?_)
      unfold lvF
      rw [bit_at (by omega) (by omega), bit_at (by omega) (by omega), wst_k 1 k j (by omega)]
    simp only [sg, Nat.zero_add]
    rw [hs, ← ih]
    unfold lvF
    rw [bit_at (by omega) (by omega)]
    rcases wst_cs (A := A) (x := x) (sd := sd) (sh := sh) (i := 0) (N := N) (k := k) with e | e
    · rw [e, bit_z hb, if_neg (by decide), Nat.add_zero]
    · rw [e]
      simp only [Nat.zero_add]
      rw [bit_hi hb, if_pos (by decide)]
theorem wst_q (k : Nat) (hk : k ≤ 30) : qst A x sd sh k = ((wst A x sd sh 0 (fun _ => 0) k).1, nI (wst A x sd sh 0 (fun _ => 0) k).2) := by
  induction k with
  | zero => rfl
  | succ k ih =>
    have ih := ih (by omega)
    have hb := wst_b (A := A) (x := x) (sd := sd) (sh := sh) (i := 0) (N := fun _ => 0) k
    rw [Nat.zero_add] at hb
    by_cases c : x + aOf A (aUs A k) + (if nI k = sd then sh else 0) < nI ((wst A x sd sh 0 (fun _ => 0) k).1 + aAc A k)
    · have e1 : qst A x sd sh (k + 1) = qst A x sd sh k := if_pos (by rw [ih]; exact c)
      have e2 : wst A x sd sh 0 (fun _ => 0) (k + 1) = wst A x sd sh 0 (fun _ => 0) k := wst_lt (by simp only [Nat.zero_add, Int32.add_zero]; exact c)
      rw [e1, e2, ih]
    · have e1 : qst A x sd sh (k + 1) = ((qst A x sd sh k).1 + aAc A k, (qst A x sd sh k).2 ||| ((1 : Int32) <<< (nI k &&& 31))) := if_neg (by rw [ih]; exact c)
      have e2 : wst A x sd sh 0 (fun _ => 0) (k + 1) = _ := wst_ge (by simp only [Nat.zero_add, Int32.add_zero]; exact c)
      rw [e1, e2, ih]
      simp only [Nat.zero_add]
      rw [bit_add hb (by omega)]
theorem nst_N {z0 : Nat} {D : Nat → Int32} : ∀ r k, k < k + r → (nst A x z0 i D (k + r)).2.2.2 (i + k) = (if aAm A (aUs A (i + k)) = 0 then 0 else nzI (nzN (nst A x z0 i D k).2.2.1) (aAm A (aUs A (i + k)))) := by
  intro r
  induction r with
  | zero => intro k hk; exact absurd hk (by omega)
  | succ r ih =>
    intro k _
    show (nst A x z0 i D (k + r + 1)).2.2.2 (i + k) = _
    have hst : (nst A x z0 i D (k + r + 1)).2.2.2 (i + k) = if i + k = i + (k + r) then (if aAm A (aUs A (i + (k + r))) = 0 then 0 else nzI (nzN (nst A x z0 i D (k + r)).2.2.1) (aAm A (aUs A (i + (k + r))))) else (nst A x z0 i D (k + r)).2.2.2 (i + k) := by
      by_cases c : x + aOf A (aUs A (i + (k + r))) + (if aAm A (aUs A (i + (k + r))) = 0 then (0 : Int32) else nzI (nzN (nst A x z0 i D (k + r)).2.2.1) (aAm A (aUs A (i + (k + r))))) < nI ((nst A x z0 i D (k + r)).1 + aAc A (i + (k + r)))
      · rw [nst_lt rfl rfl c]
      · rw [nst_ge rfl rfl c]
    rw [hst]
    by_cases e : r = 0
    · subst e
      rw [Nat.add_zero, if_pos rfl]
    · rw [if_neg (by omega)]
      exact ih k (by omega)
theorem wst_n {z0 k : Nat} {D : Nat → Int32} (hN : ∀ j, j < k → N (i + j) = (if aAm A (aUs A (i + j)) = 0 then 0 else nzI (nzN (nst A x z0 i D j).2.2.1) (aAm A (aUs A (i + j))))) (hk : i + k ≤ 30) : (nst A x z0 i D k).1 = (wst A x (-1) sh i N k).1 ∧ (nst A x z0 i D k).2.1 = nI (wst A x (-1) sh i N k).2 := by
  induction k with
  | zero => exact ⟨rfl, rfl⟩
  | succ k ih =>
    have ih := ih (fun j hj => hN j (by omega)) (by omega)
    have hb := wst_b (A := A) (x := x) (sd := -1) (sh := sh) (i := i) (N := N) k
    have hn := hN k (by omega)
    have hsd : ¬ nI (i + k) = -1 := fun e => by
      have := nI_pos (show i + k < 2 ^ 31 by omega)
      rw [e] at this
      exact this (by decide)
    by_cases c : x + aOf A (aUs A (i + k)) + (if aAm A (aUs A (i + k)) = 0 then (0 : Int32) else nzI (nzN (nst A x z0 i D k).2.2.1) (aAm A (aUs A (i + k)))) < nI ((nst A x z0 i D k).1 + aAc A (i + k))
    · have e2 : wst A x (-1) sh i N (k + 1) = _ := wst_lt (by rw [if_neg hsd, Int32.add_zero, hn, ← ih.1]; exact c)
      rw [nst_lt rfl rfl c, e2]
      exact ih
    · have e2 : wst A x (-1) sh i N (k + 1) = _ := wst_ge (by rw [if_neg hsd, Int32.add_zero, hn, ← ih.1]; exact c)
      rw [nst_ge rfl rfl c, e2]
      refine ⟨by rw [ih.1], ?_⟩
      show (nst A x z0 i D k).2.1 ||| _ = _
      rw [ih.2, bit_add hb (by omega)]
end MSTL
