/-! absorbs: the least shift that turns, and the first that is too much -/
def shS (le : Int32) (s : Nat) : Int32 := if le = 0 then nI s else -nI s
def cSh (C : CSt) (le : Int32) (k s : Nat) : Nat → Nat := rcS C (nI k) (shS le s)
theorem nI_ne {a b : Nat} (h : a < b) (hb : b < 2 ^ 31) : ¬ nI a = nI b := fun e => by
  have := (nI_eq (by omega) hb).mp e
  omega
section QSL
variable {A : ASet} {x sh sh' : Int32} {k : Nat}
theorem qst_pre (hk : k ≤ 30) : ∀ j, j ≤ k → qst A x (nI k) sh j = qst A x (nI k) sh' j := by
  intro j
  induction j with
  | zero => intro _; rfl
  | succ j ih =>
    intro hj
    unfold qst
    rw [ih (by omega), if_neg (nI_ne (by omega) (by omega)), if_neg (nI_ne (by omega) (by omega))]
theorem qst_dec (hk : k ≤ 30) (h : x + aOf A (aUs A k) + sh < nI ((qst A x (nI k) 0 k).1 + aAc A k) ↔ x + aOf A (aUs A k) + sh' < nI ((qst A x (nI k) 0 k).1 + aAc A k)) : ∀ n, n ≤ 30 → qst A x (nI k) sh n = qst A x (nI k) sh' n := by
  intro n
  induction n with
  | zero => intro _; rfl
  | succ n ih =>
    intro hn
    have ih := ih (by omega)
    by_cases e : n = k
    · subst e
      have p1 := qst_pre (A := A) (x := x) (sh := sh) (sh' := 0) hk n (Nat.le_refl _)
      have p2 := qst_pre (A := A) (x := x) (sh := sh') (sh' := 0) hk n (Nat.le_refl _)
      unfold qst
      rw [if_pos rfl, if_pos rfl, p1, p2]
      by_cases c : x + aOf A (aUs A n) + sh < nI ((qst A x (nI n) 0 n).1 + aAc A n)
      · rw [if_pos c, if_pos (h.mp c)]
      · rw [if_neg c, if_neg (fun w => c (h.mpr w))]
    · have hne : ¬ nI n = nI k := fun w => e ((nI_eq (by omega) (by omega)).mp w)
      unfold qst
      rw [if_neg hne, if_neg hne, ih]
theorem qst_00 : ∀ n, qst A x (-1) 0 n = qst A x (nI k) 0 n := by
  intro n
  induction n with
  | zero => rfl
  | succ n ih =>
    unfold qst
    rw [ih, ite_self, ite_self]
theorem thB_q {n : Nat} (hn : n ≤ 30) (hk : k < n) : thB A (qst A x (-1) 0 n).2 k = (qst A x (nI k) 0 k).1 + aAc A k := by
  rw [← qst_00, wst_q n hn, wst_q k (by omega)]
  exact (wst_th hn hk).symm
end QSL
theorem of_nat {v : Int32} (h1 : (-50) ≤ v.toInt) (h2 : v.toInt ≤ 50) : ∃ o : Nat, o ≤ 100 ∧ v = nI o - nI 50 := by
  refine ⟨(v.toInt + 50).toNat, by omega, ?_⟩
  apply Int32.toInt_inj.mp
  rw [pk_sub_toInt (by omega) (by omega)]
  omega
theorem sub_lt {a b c : Nat} (ha : a < 2 ^ 30) (hb : b < 2 ^ 30) (hc : c < 2 ^ 30) : nI a - nI b < nI c ↔ a < c + b := by
  rw [Int32.lt_iff_toInt_lt, pk_sub_toInt ha hb, nI_toInt (by omega)]
  omega
theorem ar_p (X o s : Nat) : nI X + (nI o - nI 50) + nI s = nI (X + o + s) - nI 50 := by
  rw [← nI_add, ← nI_add, Int32.sub_eq_add_neg, Int32.sub_eq_add_neg]
  ac_rfl
theorem ar_m (X o s : Nat) : nI X + (nI o - nI 50) + -nI s = nI (X + o) - nI (50 + s) := by
  rw [← nI_add, ← nI_add, Int32.sub_eq_add_neg, Int32.sub_eq_add_neg, Int32.neg_add, Int32.sub_eq_add_neg]
  ac_rfl
theorem ar_l (X o t : Nat) : nI t - nI X - (nI o - nI 50) = nI (t + 50) - nI (X + o) := by
  rw [← nI_add, ← nI_add]
  simp only [Int32.sub_eq_add_neg, Int32.neg_add, Int32.neg_neg]
  ac_rfl
theorem ar_1 (u v : Nat) : 1 - (nI v - nI u) = nI (u + 1) - nI v := by
  rw [← nI_1]
  simp only [Int32.sub_eq_add_neg, Int32.neg_add, Int32.neg_neg]
  ac_rfl
/-- for each weight and input there is a shift from which on the trial is another -/
theorem turn {C : CSt} {M : Nat} (hV : VC M C) {k m : Nat} (hk : k < aWm (sSet C)) (hm : m ≤ 5120) (le : Int32) : ∃ T : Nat, T ≤ 20000 ∧ (tnI C le k m < 1 ↔ T = 0) ∧ (¬ T = 0 → tnI C le k m = nI T) ∧ (∀ s, s ≤ 20000 → (s < T ∨ T = 0) → cSh C le k s m = rcd C m) ∧ (∀ s, s ≤ 20000 → T ≤ s → ¬ T = 0 → cSh C le k s m = cSh C le k T m) := by
  have hS := hV.1
  have hw10 := hS.2.1.2
  have hu := (hS.2.2.1 k hk).2.2.2.2
  have hac := (hS.2.2.1 k hk).2.2.2.1
  obtain ⟨-, o1, o2⟩ := hS.2.2.2.1 _ hu
  obtain ⟨o, ho, eo⟩ := of_nat o1 o2
  have hth := thB_q (A := sSet C) (x := nI m) (k := k) (n := aWm (sSet C)) (by omega) hk
  generalize hg : (qst (sSet C) (nI m) (nI k) 0 k).1 + aAc (sSet C) k = th at *
  have hthb : th ≤ 10000 := by
    have : thB (sSet C) (qst (sSet C) (nI m) (-1) 0 (aWm (sSet C))).2 k ≤ 512 * k + 512 := by
      unfold thB
      have := sg_le (f := lvF (sSet C) (qst (sSet C) (nI m) (-1) 0 (aWm (sSet C))).2) (K := 512) (i := 0) k (fun j hj => by
        unfold lvF
        split
        · exact (hS.2.2.1 (0 + j) (by omega)).2.2.2.1
        · exact Nat.zero_le _)
      omega
    omega
  have hlk : lkI (sSet C) (nI m) k = nI (th + 50) - nI (m + o) := by
    unfold lkI
    rw [hth, eo]
    exact ar_l m o th
  have hdp : ∀ s, s ≤ 20000 → (nI m + aOf (sSet C) (aUs (sSet C) k) + nI s < nI th ↔ m + o + s < th + 50) := fun s hs => by
    rw [eo, ar_p]
    exact sub_lt (by omega) (by decide) (by omega)
  have hdm : ∀ s, s ≤ 20000 → (nI m + aOf (sSet C) (aUs (sSet C) k) + -nI s < nI th ↔ m + o < th + (50 + s)) := fun s hs => by
    rw [eo, ar_m]
    exact sub_lt (by omega) (by omega) (by omega)
  have h0 : rcd C m = cSh C le k 0 m := by
    unfold rcd cSh rcS
    rw [qst_00 (k := k), show shS le 0 = 0 by unfold shS; split <;> rfl]
  have hsame : ∀ s s', s ≤ 20000 → s' ≤ 20000 → (nI m + aOf (sSet C) (aUs (sSet C) k) + shS le s < nI th ↔ nI m + aOf (sSet C) (aUs (sSet C) k) + shS le s' < nI th) → cSh C le k s m = cSh C le k s' m := fun s s' _ _ hh => by
    unfold cSh rcS
    rw [qst_dec (sh := shS le s) (sh' := shS le s') (by omega) (by rw [hg]; exact hh) (aWm (sSet C)) (by omega)]
  by_cases hl : le = 0
  · have es : ∀ s, shS le s = nI s := fun s => if_pos hl
    have et : tnI C le k m = nI (th + 50) - nI (m + o) := (if_pos hl).trans hlk
    refine ⟨th + 50 - (m + o), by omega, ?_, fun hT => ?_, fun s hs c => ?_, fun s hs c hT => ?_⟩
    · rw [et, show (1 : Int32) = nI 1 from rfl, sub_lt (by omega) (by omega) (by decide)]
      omega
    · rw [et]; exact pk_sub (by omega)
    · rw [h0]
      refine hsame s 0 hs (Nat.zero_le _) ?_
      rw [es, es, hdp s hs, hdp 0 (Nat.zero_le _)]
      omega
    · refine hsame s _ hs (by omega) ?_
      rw [es, es, hdp s hs, hdp _ (by omega)]
      omega
  · have es : ∀ s, shS le s = -nI s := fun s => if_neg hl
    have et : tnI C le k m = nI (m + o + 1) - nI (th + 50) := (if_neg hl).trans (by rw [hlk]; exact ar_1 _ _)
    refine ⟨m + o + 1 - (th + 50), by omega, ?_, fun hT => ?_, fun s hs c => ?_, fun s hs c hT => ?_⟩
    · rw [et, show (1 : Int32) = nI 1 from rfl, sub_lt (by omega) (by omega) (by decide)]
      omega
    · rw [et]; exact pk_sub (by omega)
    · rw [h0]
      refine hsame s 0 hs (Nat.zero_le _) ?_
      rw [es, es, hdm s hs, hdm 0 (Nat.zero_le _)]
      omega
    · refine hsame s _ hs (by omega) ?_
      rw [es, es, hdm s hs, hdm _ (by omega)]
      omega
/-- all of n inputs bear the shift s -/
def brs (C : CSt) (le : Int32) (k n s : Nat) : Prop := ∀ x, x < n → erF (cSh C le k s) x ≤ gfF (rcd C) (rgN C + 1)
theorem abS_b {C : CSt} {M : Nat} (hV : VC M C) {k : Nat} (hk : k < aWm (sSet C)) (le : Int32) : ∀ n, n ≤ rgN C + 1 → ∃ e, e ≤ 100 ∧ abS C le k n = nI e ∧ (∀ s, s ≤ e → brs C le k n s) ∧ (e = 100 ∨ ¬ brs C le k n (e + 1)) := by
  have hrg := rgN_le hV.1
  intro n
  induction n with
  | zero => intro _; exact ⟨100, Nat.le_refl _, rfl, fun s _ x hx => absurd hx (Nat.not_lt_zero x), Or.inl rfl⟩
  | succ n ih =>
    intro hn
    obtain ⟨e, e1, e2, e3, e4⟩ := ih (by omega)
    obtain ⟨T, t1, t2, t3, t4, t5⟩ := turn hV hk (show n ≤ 5120 by omega) le
    have hw : erF (rcd C) n ≤ gfF (rcd C) (rgN C + 1) := (gf_le _).mp (Nat.le_refl _) n (by omega)
    have her : ∀ s, cSh C le k s n = rcd C n → erF (cSh C le k s) n ≤ gfF (rcd C) (rgN C + 1) := fun s h => by
      unfold erF at hw ⊢
      rw [h]; exact hw
    have hsucc : ∀ s, brs C le k (n + 1) s ↔ brs C le k n s ∧ erF (cSh C le k s) n ≤ gfF (rcd C) (rgN C + 1) := fun s => by
      constructor
      · intro h; exact ⟨fun x hx => h x (by omega), h n (by omega)⟩
      · intro h x hx
        by_cases c : x = n
        · rw [c]; exact h.2
        · exact h.1 x (by omega)
    unfold abS
    by_cases hT : T = 0
    · rw [if_pos (t2.mpr hT)]
      refine ⟨e, e1, e2, fun s hs => (hsucc s).mpr ⟨e3 s hs, her s (t4 s (by omega) (Or.inr hT))⟩, ?_⟩
      rcases e4 with c | c
      · exact Or.inl c
      · exact Or.inr (fun w => c ((hsucc _).mp w).1)
    · rw [if_neg (fun w => hT (t2.mp w)), t3 hT, e2]
      by_cases c1 : e < T
      · rw [if_pos (nI_lt c1 (by omega))]
        refine ⟨e, e1, rfl, fun s hs => (hsucc s).mpr ⟨e3 s hs, her s (t4 s (by omega) (Or.inl (by omega)))⟩, ?_⟩
        rcases e4 with c | c
        · exact Or.inl c
        · exact Or.inr (fun w => c ((hsucc _).mp w).1)
      · rw [if_neg (nI_nlt (by omega) (by omega))]
        have hcS : cvC C (qst (sSet C) (nI n) (nI k) (if le = 0 then nI T else -nI T) (aWm (sSet C))).2 = cSh C le k T n := rfl
        have hb : cSh C le k T n ≤ 10230 := cvC_le hV.1 hV.2.2.1.2.1 _
        have habs : (if 0 ≤ erI C (if le = 0 then nI T else -nI T) k n then erI C (if le = 0 then nI T else -nI T) k n else -erI C (if le = 0 then nI T else -nI T) k n) = nI (erF (cSh C le k T) n) := by
          unfold erI
          rw [hcS]
          exact nI_abs (by omega) (by omega)
        rw [habs, ← gf_wi]
        have hb2 := erF_le hb (show n ≤ 5120 by omega)
        have hb3 := gf_b (f := rcd C) (rcd_le hV) (rgN C + 1) (by omega)
        by_cases c2 : erF (cSh C le k T) n ≤ gfF (rcd C) (rgN C + 1)
        · rw [if_pos (nI_le c2 (by omega))]
          have hall : ∀ s, s ≤ 20000 → erF (cSh C le k s) n ≤ gfF (rcd C) (rgN C + 1) := fun s hs => by
            by_cases c3 : s < T
            · exact her s (t4 s hs (Or.inl c3))
            · have := t5 s hs (by omega) hT
              unfold erF at c2 ⊢
              rw [this]; exact c2
          refine ⟨e, e1, rfl, fun s hs => (hsucc s).mpr ⟨e3 s hs, hall s (by omega)⟩, ?_⟩
          rcases e4 with c | c
          · exact Or.inl c
          · exact Or.inr (fun w => c ((hsucc _).mp w).1)
        · rw [if_neg (fun w => c2 ((nI_leI (by omega) (by omega)).mp w))]
          refine ⟨T - 1, by omega, pk_sub (b := 1) (by omega), fun s hs => (hsucc s).mpr ⟨e3 s (by omega), her s (t4 s (by omega) (Or.inl (by omega)))⟩, Or.inr (fun w => ?_)⟩
          rw [show T - 1 + 1 = T by omega] at w
          exact c2 ((hsucc _).mp w).2
