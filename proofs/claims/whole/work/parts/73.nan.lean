/-! NUMBERS THAT ARE NO NaN -/
theorem nn_rr (f : Jvm.FP.Core.Fmt) (s : Bool) (a b : Nat) (e : Int) : Jvm.FP.Core.roundRatio f s a b e ≠ .nan := by
  unfold Jvm.FP.Core.roundRatio
  split
  · intro h; cases h
  · unfold Jvm.FP.Core.roundAt Jvm.FP.Core.settle Jvm.FP.Core.bound
    split <;> split <;> (intro h; cases h)
def finNZ : Jvm.FP.Core.Datum → Bool
  | .fin _ d _ => decide (d ≠ 0)
  | _ => false
theorem nn_quot {f : Jvm.FP.Core.Fmt} {x y : Jvm.FP.Core.Datum} (hx : x ≠ .nan) (hy : finNZ y = true) : Jvm.FP.Core.quotient f x y ≠ .nan := by
  cases y with
  | nan => cases hy
  | inf => cases hy
  | fin t d r =>
    have hd : d ≠ 0 := of_decide_eq_true hy
    cases x with
    | nan => exact absurd rfl hx
    | inf s => intro h; cases h
    | fin s c q =>
      unfold Jvm.FP.Core.quotient
      simp only [if_neg hd]
      exact nn_rr _ _ _ _ _
theorem nn32 {r : UInt32} (h : Jvm.FP.Core.val32 r ≠ .nan) : vf_n32 r := by
  unfold vf_n32
  rw [UInt32.le_iff_toNat_le, UInt32.toNat_and]
  have e1 : (0x7fffffff : UInt32).toNat = 2 ^ 31 - 1 := by decide
  have e2 : (0x7f800000 : UInt32).toNat = 2139095040 := by decide
  rw [e1, e2, Nat.and_two_pow_sub_one_eq_mod]
  have hd : ¬ (r.toNat / 8388608 % 256 = 255 ∧ ¬ r.toNat % 8388608 = 0) := fun w => h (by
    show Jvm.FP.Core.decode _ r.toNat = _
    unfold Jvm.FP.Core.decode
    rw [if_pos (show Jvm.FP.Core.fieldE Jvm.FP.Core.b32 r.toNat = Jvm.FP.Core.b32.exps - 1 from w.1), if_neg (show ¬ Jvm.FP.Core.fieldT Jvm.FP.Core.b32 r.toNat = 0 from w.2)])
  omega
theorem nn64 {r : UInt64} (h : Jvm.FP.Core.val64 r ≠ .nan) : vf_n64 r := by
  unfold vf_n64
  rw [UInt64.le_iff_toNat_le, UInt64.toNat_and]
  have e1 : (0x7fffffffffffffff : UInt64).toNat = 2 ^ 63 - 1 := by decide
  have e2 : (0x7ff0000000000000 : UInt64).toNat = 9218868437227405312 := by decide
  rw [e1, e2, Nat.and_two_pow_sub_one_eq_mod]
  have hd : ¬ (r.toNat / 4503599627370496 % 2048 = 2047 ∧ ¬ r.toNat % 4503599627370496 = 0) := fun w => h (by
    show Jvm.FP.Core.decode _ r.toNat = _
    unfold Jvm.FP.Core.decode
    rw [if_pos (show Jvm.FP.Core.fieldE Jvm.FP.Core.b64 r.toNat = Jvm.FP.Core.b64.exps - 1 from w.1), if_neg (show ¬ Jvm.FP.Core.fieldT Jvm.FP.Core.b64 r.toNat = 0 from w.2)])
  omega
theorem nn_i2f (a : Int32) : Jvm.FP.Core.val32 (Jvm.FP.Core.i2f a) ≠ .nan := by
  rw [Jvm.FP.Core.val32_i2f]
  exact nn_rr _ _ _ _ _
theorem nn_i2d (a : Int32) : Jvm.FP.Core.val64 (Jvm.FP.Core.i2d a) ≠ .nan := by
  rw [Jvm.FP.Core.val64_i2d]
  exact nn_rr _ _ _ _ _
theorem nz_f : ∀ m, m < 17 → 0 < m → finNZ (Jvm.FP.Core.val32 (Jvm.FP.Core.i2f (nI m))) = true := by decide +kernel
theorem nz_d2 : ∀ a, a < 72 → ∀ b, b < 72 → 0 < 72 * a + b → finNZ (Jvm.FP.Core.val64 (Jvm.FP.Core.i2d (nI (72 * a + b)))) = true := by decide +kernel
theorem nz_d (m : Nat) (h : m < 5122) (h0 : 0 < m) : finNZ (Jvm.FP.Core.val64 (Jvm.FP.Core.i2d (nI m))) = true := by
  have := nz_d2 (m / 72) (by omega) (m % 72) (Nat.mod_lt _ (by decide)) (by omega)
  rw [show 72 * (m / 72) + m % 72 = m from Nat.div_add_mod m 72] at this
  exact this
theorem nan_avg (a : Int32) {m : Nat} (h0 : 0 < m) (h1 : m ≤ 16) : Jvm.FP.Core.val32 (FP.fdiv (FP.i2f a) (FP.i2f (nI m))) ≠ .nan := by
  show Jvm.FP.Core.val32 (Jvm.FP.Core.fdiv (Jvm.FP.Core.i2f a) (Jvm.FP.Core.i2f (nI m))) ≠ .nan
  rw [Jvm.FP.Core.val32_fdiv]
  exact nn_quot (nn_i2f a) (nz_f m (by omega) h0)
theorem nan_mean (a : Int32) {m : Nat} (h0 : 0 < m) (h1 : m ≤ 5121) : Jvm.FP.Core.val64 (FP.ddiv (FP.i2d a) (FP.i2d (nI m))) ≠ .nan := by
  show Jvm.FP.Core.val64 (Jvm.FP.Core.ddiv (Jvm.FP.Core.i2d a) (Jvm.FP.Core.i2d (nI m))) ≠ .nan
  rw [Jvm.FP.Core.val64_ddiv]
  exact nn_quot (nn_i2d a) (nz_d m (by omega) h0)
