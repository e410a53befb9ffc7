/-! THE LAW: questions that throw nothing -/
/-- the mean error, a double -/
def MdD (ks : Nat → Nat) (nm : Nat) (as : List Value) (S1 : M9) (x m ol od : Nat) (ad : Nat → Nat) (n : Nat) (w : UInt64) : Prop := ∀ (d : Nat) (Q2 : QP), (∀ S2, LI S2 x m ol od ad n → Q2 (.inl (some (.double w))) S2) → WG ks (d + 20) nm as S1 Q2
section PQS
variable {ks : Nat → Nat} {d n : Nat} {Q : QP} {S : M9} {x m ol od : Nat} {ad : Nat → Nat}
theorem li_thrown {w : Int32} (hL : LI S x m ol od ad n) (hv : gI S 11 m 6 = w) (h : Q (.inl (some (.int w))) S) : WG ks (d + 1) n_X9_thrown [.ref m] S Q := by
  obtain ⟨M, u, v, tl, T, eA, hn', H, C, wn, Wt, s0, s1, fr, hR, hM, hB, hO, b1, b2, b3⟩ := hL
  exact sp_mThrown hM.1 hv h
theorem li_x (hL : LI S x m ol od ad n) : x ∈ gL S ∧ gK S x = 10 := by
  obtain ⟨M, u, v, tl, T, eA, hn', H, C, wn, Wt, s0, s1, fr, hR, hM, hB, hO, b1, b2, b3⟩ := hL
  exact cr_x hR
theorem li_o (hL : LI S x m ol od ad n) : MdF S m ol od := by
  obtain ⟨M, u, v, tl, T, eA, hn', H, C, wn, Wt, s0, s1, fr, hR, hM, hB, hO, b1, b2, b3⟩ := hL
  exact ⟨hM.1.1, hO⟩
theorem pq_errorPosition (hL : LI S x m ol od ad n) (hn : n < 512) (h : ∀ S1 w1, MdQ ks n_X9_errorPosition [.ref m] S1 x m ol od ad (n + 1) w1 → MdF S1 m ol od → Q (.inl (some (.int w1))) S1) : WG ks (d + 30) n_X8_errorPosition [.ref x] S Q := by
  obtain ⟨M, u, v, tl, T, eA, hn', H, C, wn, Wt, s0, s1, fr, hR, hM, hB, hO, b1, b2, b3⟩ := hL
  obtain ⟨hV, hVH⟩ := cr_VC hR hB
  have hcc : u + 110 ≤ cCM ∧ v + 910000 ≤ cSM := by unfold cCM cSM; omega
  obtain ⟨st, L9, hQ⟩ := cr_q hR
  have hM9 : M ≤ 9800 := by omega
  exact sp_errorPosition hR (h S _ (fun d2 Q2 hq => sp_mErrPos hM (fun S2 hMo g6 F2 => hq S2 (li_mk hR hMo F2 hB hO (by omega) (by omega) (by omega)))) ⟨hM.1.1, hO⟩)
theorem pq_decidedWrong (hL : LI S x m ol od ad n) (hn : n < 512) (h : ∀ S1 w1, MdQ ks n_X9_decidedWrong [.ref m] S1 x m ol od ad (n + 1) w1 → MdF S1 m ol od → Q (.inl (some (.int w1))) S1) : WG ks (d + 30) n_X8_decidedWrong [.ref x] S Q := by
  obtain ⟨M, u, v, tl, T, eA, hn', H, C, wn, Wt, s0, s1, fr, hR, hM, hB, hO, b1, b2, b3⟩ := hL
  obtain ⟨hV, hVH⟩ := cr_VC hR hB
  have hcc : u + 110 ≤ cCM ∧ v + 910000 ≤ cSM := by unfold cCM cSM; omega
  obtain ⟨st, L9, hQ⟩ := cr_q hR
  have hM9 : M ≤ 9800 := by omega
  exact sp_decidedWrong hQ (h S _ (fun d2 Q2 hq => sp_mDecided hM hV (fun S2 hMo g6 F2 => hq S2 (li_mk hR hMo F2 hB hO (by omega) (by omega) (by omega)))) ⟨hM.1.1, hO⟩)
theorem pq_seen (hL : LI S x m ol od ad n) (hn : n < 512) {a : Int32} (h : ∀ S1 w1, MdQ ks n_X9_seen [.ref m, .int a] S1 x m ol od ad (n + 1) w1 → MdF S1 m ol od → Q (.inl (some (.int w1))) S1) : WG ks (d + 30) n_X8_seen [.ref x, .int a] S Q := by
  obtain ⟨M, u, v, tl, T, eA, hn', H, C, wn, Wt, s0, s1, fr, hR, hM, hB, hO, b1, b2, b3⟩ := hL
  obtain ⟨hV, hVH⟩ := cr_VC hR hB
  have hcc : u + 110 ≤ cCM ∧ v + 910000 ≤ cSM := by unfold cCM cSM; omega
  obtain ⟨st, L9, hQ⟩ := cr_q hR
  have hM9 : M ≤ 9800 := by omega
  exact sp_seen hQ (h S _ (fun d2 Q2 hq => sp_mSeen hM (by omega) hV (fun S2 hMo g6 F2 => hq S2 (li_mk hR hMo F2 hB hO (by omega) (by omega) (by omega)))) ⟨hM.1.1, hO⟩)
theorem pq_resetTable (hL : LI S x m ol od ad n) (hn : n < 512) (h : ∀ S1 w1, MdQ ks n_X9_resetTable [.ref m] S1 x m ol od ad (n + 1) w1 → MdF S1 m ol od → Q (.inl (some (.int w1))) S1) : WG ks (d + 30) n_X8_resetTable [.ref x] S Q := by
  obtain ⟨M, u, v, tl, T, eA, hn', H, C, wn, Wt, s0, s1, fr, hR, hM, hB, hO, b1, b2, b3⟩ := hL
  obtain ⟨hV, hVH⟩ := cr_VC hR hB
  have hcc : u + 110 ≤ cCM ∧ v + 910000 ≤ cSM := by unfold cCM cSM; omega
  obtain ⟨st, L9, hQ⟩ := cr_q hR
  have hM9 : M ≤ 9800 := by omega
  exact sp_resetTable (by omega) (by omega) hR (fun S' hR' F' => h S' _ (fun d2 Q2 hq => sp_mResetTable (mo_cls hM F') (by omega) hV hVH (fun S2 hMo g6 F2 => hq S2 (li_mk hR' hMo F2 (hB.push hB.1) (hO.fr F') (by omega) (by omega) (by omega)))) ⟨(mo_cls hM F').1.1, hO.fr F'⟩)
theorem pq_codes (hL : LI S x m ol od ad n) (hn : n < 512) (h : ∀ S1 w1, MdQ ks n_X9_codes [.ref m] S1 x m ol od ad (n + 1) w1 → MdF S1 m ol od → Q (.inl (some (.int w1))) S1) : WG ks (d + 30) n_X8_codes [.ref x] S Q := by
  obtain ⟨M, u, v, tl, T, eA, hn', H, C, wn, Wt, s0, s1, fr, hR, hM, hB, hO, b1, b2, b3⟩ := hL
  obtain ⟨hV, hVH⟩ := cr_VC hR hB
  have hcc : u + 110 ≤ cCM ∧ v + 910000 ≤ cSM := by unfold cCM cSM; omega
  obtain ⟨st, L9, hQ⟩ := cr_q hR
  have hM9 : M ≤ 9800 := by omega
  exact sp_codes hR (fun S' hR' F' => h S' _ (fun d2 Q2 hq => sp_mCodes (mo_cls hM F') hV (fun S2 hMo g6 F2 => hq S2 (li_mk hR' hMo F2 hB (hO.fr F') (by omega) (by omega) (by omega)))) ⟨(mo_cls hM F').1.1, hO.fr F'⟩)
theorem pq_missing (hL : LI S x m ol od ad n) (hn : n < 512) (h : ∀ S1 w1, MdQ ks n_X9_missing [.ref m] S1 x m ol od ad (n + 1) w1 → MdF S1 m ol od → Q (.inl (some (.int w1))) S1) : WG ks (d + 30) n_X8_missing [.ref x] S Q := by
  obtain ⟨M, u, v, tl, T, eA, hn', H, C, wn, Wt, s0, s1, fr, hR, hM, hB, hO, b1, b2, b3⟩ := hL
  obtain ⟨hV, hVH⟩ := cr_VC hR hB
  have hcc : u + 110 ≤ cCM ∧ v + 910000 ≤ cSM := by unfold cCM cSM; omega
  obtain ⟨st, L9, hQ⟩ := cr_q hR
  have hM9 : M ≤ 9800 := by omega
  exact sp_missing hR (fun S' hR' F' => h S' _ (fun d2 Q2 hq => sp_mMissing (mo_cls hM F') hV (fun S2 hMo g6 F2 => hq S2 (li_mk hR' hMo F2 hB (hO.fr F') (by omega) (by omega) (by omega)))) ⟨(mo_cls hM F').1.1, hO.fr F'⟩)
theorem pq_width (hL : LI S x m ol od ad n) (hn : n < 512) {a : Int32} (h : ∀ S1 w1, MdQ ks n_X9_width [.ref m, .int a] S1 x m ol od ad (n + 1) w1 → MdF S1 m ol od → Q (.inl (some (.int w1))) S1) : WG ks (d + 30) n_X8_width [.ref x, .int a] S Q := by
  obtain ⟨M, u, v, tl, T, eA, hn', H, C, wn, Wt, s0, s1, fr, hR, hM, hB, hO, b1, b2, b3⟩ := hL
  obtain ⟨hV, hVH⟩ := cr_VC hR hB
  have hcc : u + 110 ≤ cCM ∧ v + 910000 ≤ cSM := by unfold cCM cSM; omega
  obtain ⟨st, L9, hQ⟩ := cr_q hR
  have hM9 : M ≤ 9800 := by omega
  exact sp_width hR (fun S' hR' F' => h S' _ (fun d2 Q2 hq => sp_mWidth (mo_cls hM F') hV (fun S2 hMo g6 F2 => hq S2 (li_mk hR' hMo F2 hB (hO.fr F') (by omega) (by omega) (by omega)))) ⟨(mo_cls hM F').1.1, hO.fr F'⟩)
theorem pq_widest (hL : LI S x m ol od ad n) (hn : n < 512) (h : ∀ S1 w1, MdQ ks n_X9_widest [.ref m] S1 x m ol od ad (n + 1) w1 → MdF S1 m ol od → Q (.inl (some (.int w1))) S1) : WG ks (d + 30) n_X8_widest [.ref x] S Q := by
  obtain ⟨M, u, v, tl, T, eA, hn', H, C, wn, Wt, s0, s1, fr, hR, hM, hB, hO, b1, b2, b3⟩ := hL
  obtain ⟨hV, hVH⟩ := cr_VC hR hB
  have hcc : u + 110 ≤ cCM ∧ v + 910000 ≤ cSM := by unfold cCM cSM; omega
  obtain ⟨st, L9, hQ⟩ := cr_q hR
  have hM9 : M ≤ 9800 := by omega
  exact sp_widest hR (fun S' hR' F' => h S' _ (fun d2 Q2 hq => sp_mWidest (mo_cls hM F') hV (fun S2 hMo g6 F2 => hq S2 (li_mk hR' hMo F2 hB (hO.fr F') (by omega) (by omega) (by omega)))) ⟨(mo_cls hM F').1.1, hO.fr F'⟩)
theorem pq_stepsBack (hL : LI S x m ol od ad n) (hn : n < 512) (h : ∀ S1 w1, MdQ ks n_X9_stepsBack [.ref m] S1 x m ol od ad (n + 1) w1 → MdF S1 m ol od → Q (.inl (some (.int w1))) S1) : WG ks (d + 30) n_X8_stepsBack [.ref x] S Q := by
  obtain ⟨M, u, v, tl, T, eA, hn', H, C, wn, Wt, s0, s1, fr, hR, hM, hB, hO, b1, b2, b3⟩ := hL
  obtain ⟨hV, hVH⟩ := cr_VC hR hB
  have hcc : u + 110 ≤ cCM ∧ v + 910000 ≤ cSM := by unfold cCM cSM; omega
  obtain ⟨st, L9, hQ⟩ := cr_q hR
  have hM9 : M ≤ 9800 := by omega
  exact sp_stepsBack hR (fun S' hR' F' => h S' _ (fun d2 Q2 hq => sp_mStepsBack (mo_cls hM F') hV (fun S2 hMo g6 F2 => hq S2 (li_mk hR' hMo F2 hB (hO.fr F') (by omega) (by omega) (by omega)))) ⟨(mo_cls hM F').1.1, hO.fr F'⟩)
theorem pq_worstInput (hL : LI S x m ol od ad n) (hn : n < 512) (h : ∀ S1 w1, MdQ ks n_X9_worstInput [.ref m] S1 x m ol od ad (n + 1) w1 → MdF S1 m ol od → Q (.inl (some (.int w1))) S1) : WG ks (d + 30) n_X8_worstInput [.ref x] S Q := by
  obtain ⟨M, u, v, tl, T, eA, hn', H, C, wn, Wt, s0, s1, fr, hR, hM, hB, hO, b1, b2, b3⟩ := hL
  obtain ⟨hV, hVH⟩ := cr_VC hR hB
  have hcc : u + 110 ≤ cCM ∧ v + 910000 ≤ cSM := by unfold cCM cSM; omega
  obtain ⟨st, L9, hQ⟩ := cr_q hR
  have hM9 : M ≤ 9800 := by omega
  exact sp_worstInput hR (fun S' hR' F' => h S' _ (fun d2 Q2 hq => sp_mWorst (mo_cls hM F') hV (fun S2 hMo g6 F2 => hq S2 (li_mk hR' hMo F2 hB (hO.fr F') (by omega) (by omega) (by omega)))) ⟨(mo_cls hM F').1.1, hO.fr F'⟩)
theorem pq_risingFrom (hL : LI S x m ol od ad n) (hn : n < 512) (h : ∀ S1 w1, MdQ ks n_X9_risingFrom [.ref m] S1 x m ol od ad (n + 1) w1 → MdF S1 m ol od → Q (.inl (some (.int w1))) S1) : WG ks (d + 30) n_X8_risingFrom [.ref x] S Q := by
  obtain ⟨M, u, v, tl, T, eA, hn', H, C, wn, Wt, s0, s1, fr, hR, hM, hB, hO, b1, b2, b3⟩ := hL
  obtain ⟨hV, hVH⟩ := cr_VC hR hB
  have hcc : u + 110 ≤ cCM ∧ v + 910000 ≤ cSM := by unfold cCM cSM; omega
  obtain ⟨st, L9, hQ⟩ := cr_q hR
  have hM9 : M ≤ 9800 := by omega
  exact sp_risingFrom hR (fun S' hR' F' => h S' _ (fun d2 Q2 hq => sp_mRising (mo_cls hM F') hV (fun S2 hMo g6 F2 => hq S2 (li_mk hR' hMo F2 hB (hO.fr F') (by omega) (by omega) (by omega)))) ⟨(mo_cls hM F').1.1, hO.fr F'⟩)
theorem pq_meanError (hL : LI S x m ol od ad n) (hn : n < 512) (h : ∀ S1 w1, MdD ks n_X9_meanError [.ref m] S1 x m ol od ad (n + 1) w1 → Jvm.FP.Core.val64 w1 ≠ .nan → MdF S1 m ol od → Q (.inl (some (.double w1))) S1) : WG ks (d + 30) n_X8_meanError [.ref x] S Q := by
  obtain ⟨M, u, v, tl, T, eA, hn', H, C, wn, Wt, s0, s1, fr, hR, hM, hB, hO, b1, b2, b3⟩ := hL
  obtain ⟨hV, hVH⟩ := cr_VC hR hB
  have hcc : u + 110 ≤ cCM ∧ v + 910000 ≤ cSM := by unfold cCM cSM; omega
  obtain ⟨st, L9, hQ⟩ := cr_q hR
  have hM9 : M ≤ 9800 := by omega
  exact sp_meanError hR (fun S' hR' F' hnan => h S' _ (fun d2 Q2 hq => sp_mMeanError (mo_cls hM F') hV (nn64 hnan) (fun S2 hMo g6 F2 => hq S2 (li_mk hR' hMo F2 hB (hO.fr F') (by omega) (by omega) (by omega)))) hnan ⟨(mo_cls hM F').1.1, hO.fr F'⟩)
end PQS
