/-! THE INSTRUCTIONS ARE MONOTONE; a table is run by its text -/
def MonoC (cl : CP) : Prop := ∀ (y : Nat) (As : List Value) (S : M9) (Q Q' : QP), (∀ o S, Q o S → Q' o S) → cl y As S Q → cl y As S Q'
def MonoO (op : Op) : Prop := ∀ (ks : Nat → Nat) (cl : CP), MonoC cl → ∀ (Q Q' : QP) (K K' : KP) (ls : List (Option Value)) (st : List Value) (S : M9), (∀ o S, Q o S → Q' o S) → (∀ pc ls st S, K pc ls st S → K' pc ls st S) → op ks cl Q K ls st S → op ks cl Q' K' ls st S
section MONO
theorem m_const (v : Value) (nx : Nat) : MonoO (o_const v nx) := by
  intro ks cl hcl Q Q' K K' ls st S hQ hK h
  exact hK _ _ _ _ h
theorem m_ldcS (i nx : Nat) : MonoO (o_ldcS i nx) := by
  intro ks cl hcl Q Q' K K' ls st S hQ hK h
  exact hK _ _ _ _ h
theorem m_goto (nx : Nat) : MonoO (o_goto nx) := by
  intro ks cl hcl Q Q' K K' ls st S hQ hK h
  exact hK _ _ _ _ h
theorem m_iload (k nx : Nat) : MonoO (o_iload k nx) := by
  intro ks cl hcl Q Q' K K' ls st S hQ hK h
  unfold o_iload at h ⊢
  split at h
  · exact hK _ _ _ _ h
  · exact h.elim
theorem m_aload (k nx : Nat) : MonoO (o_aload k nx) := by
  intro ks cl hcl Q Q' K K' ls st S hQ hK h
  unfold o_aload at h ⊢
  split at h
  · exact hK _ _ _ _ h
  · exact h.elim
theorem m_fload (k nx : Nat) : MonoO (o_fload k nx) := by
  intro ks cl hcl Q Q' K K' ls st S hQ hK h
  unfold o_fload at h ⊢
  split at h
  · exact hK _ _ _ _ h
  · exact h.elim
theorem m_dload (k nx : Nat) : MonoO (o_dload k nx) := by
  intro ks cl hcl Q Q' K K' ls st S hQ hK h
  unfold o_dload at h ⊢
  split at h
  · exact hK _ _ _ _ h
  · exact h.elim
theorem m_iinc (k : Nat) (n : Int32) (nx : Nat) : MonoO (o_iinc k n nx) := by
  intro ks cl hcl Q Q' K K' ls st S hQ hK h
  unfold o_iinc at h ⊢
  split at h
  · exact ⟨h.1, hK _ _ _ _ h.2⟩
  · exact h.elim
theorem m_istore (k nx : Nat) : MonoO (o_istore k nx) := by
  intro ks cl hcl Q Q' K K' ls st S hQ hK h
  unfold o_istore at h
  split at h
  · exact ⟨h.1, h.2.1, hK _ _ _ _ h.2.2⟩
  · exact h.elim
theorem m_astore (k nx : Nat) : MonoO (o_astore k nx) := by
  intro ks cl hcl Q Q' K K' ls st S hQ hK h
  unfold o_astore at h
  split at h
  · exact ⟨h.1, h.2.1, hK _ _ _ _ h.2.2⟩
  · exact h.elim
theorem m_fstore (k nx : Nat) : MonoO (o_fstore k nx) := by
  intro ks cl hcl Q Q' K K' ls st S hQ hK h
  unfold o_fstore at h
  split at h
  · exact ⟨h.1, h.2.1, hK _ _ _ _ h.2.2⟩
  · exact h.elim
theorem m_dstore (k nx : Nat) : MonoO (o_dstore k nx) := by
  intro ks cl hcl Q Q' K K' ls st S hQ hK h
  unfold o_dstore at h
  split at h
  · exact ⟨h.1, h.2.1, hK _ _ _ _ h.2.2⟩
  · exact h.elim
theorem m_bin (f : Int32 → Int32 → Int32) (nx : Nat) : MonoO (o_bin f nx) := by
  intro ks cl hcl Q Q' K K' ls st S hQ hK h
  unfold o_bin at h
  split at h
  · exact hK _ _ _ _ h
  · exact h.elim
theorem m_div (f : Int32 → Int32 → Int32) (nx : Nat) : MonoO (o_div f nx) := by
  intro ks cl hcl Q Q' K K' ls st S hQ hK h
  unfold o_div at h
  split at h
  · exact ⟨h.1, hK _ _ _ _ h.2⟩
  · exact h.elim
theorem m_un (f : Int32 → Int32) (nx : Nat) : MonoO (o_un f nx) := by
  intro ks cl hcl Q Q' K K' ls st S hQ hK h
  unfold o_un at h
  split at h
  · exact hK _ _ _ _ h
  · exact h.elim
theorem m_i2l (nx : Nat) : MonoO (o_i2l nx) := by
  intro ks cl hcl Q Q' K K' ls st S hQ hK h
  unfold o_i2l at h
  split at h
  · exact hK _ _ _ _ h
  · exact h.elim
theorem m_i2f (nx : Nat) : MonoO (o_i2f nx) := by
  intro ks cl hcl Q Q' K K' ls st S hQ hK h
  unfold o_i2f at h
  split at h
  · exact hK _ _ _ _ h
  · exact h.elim
theorem m_i2d (nx : Nat) : MonoO (o_i2d nx) := by
  intro ks cl hcl Q Q' K K' ls st S hQ hK h
  unfold o_i2d at h
  split at h
  · exact hK _ _ _ _ h
  · exact h.elim
theorem m_lcmp (nx : Nat) : MonoO (o_lcmp nx) := by
  intro ks cl hcl Q Q' K K' ls st S hQ hK h
  unfold o_lcmp at h
  split at h
  · exact hK _ _ _ _ h
  · exact h.elim
theorem m_f2d (nx : Nat) : MonoO (o_f2d nx) := by
  intro ks cl hcl Q Q' K K' ls st S hQ hK h
  unfold o_f2d at h
  split at h
  · exact ⟨h.1, hK _ _ _ _ h.2⟩
  · exact h.elim
theorem m_fdiv (nx : Nat) : MonoO (o_fdiv nx) := by
  intro ks cl hcl Q Q' K K' ls st S hQ hK h
  unfold o_fdiv at h
  split at h
  · exact ⟨h.1, hK _ _ _ _ h.2⟩
  · exact h.elim
theorem m_ddiv (nx : Nat) : MonoO (o_ddiv nx) := by
  intro ks cl hcl Q Q' K K' ls st S hQ hK h
  unfold o_ddiv at h
  split at h
  · exact ⟨h.1, hK _ _ _ _ h.2⟩
  · exact h.elim
theorem m_fcmp (op : CmpOp) (nx : Nat) : MonoO (o_fcmp op nx) := by
  intro ks cl hcl Q Q' K K' ls st S hQ hK h
  unfold o_fcmp at h
  split at h
  · exact hK _ _ _ _ h
  · exact h.elim
theorem m_dcmp (op : CmpOp) (nx : Nat) : MonoO (o_dcmp op nx) := by
  intro ks cl hcl Q Q' K K' ls st S hQ hK h
  unfold o_dcmp at h
  split at h
  · exact hK _ _ _ _ h
  · exact h.elim
theorem m_if (c : Int32 → Prop) (tg nx : Nat) : MonoO (o_if c tg nx) := by
  intro ks cl hcl Q Q' K K' ls st S hQ hK h
  unfold o_if at h
  split at h
  · exact ⟨fun q => hK _ _ _ _ (h.1 q), fun q => hK _ _ _ _ (h.2 q)⟩
  · exact h.elim
theorem m_if2 (c : Int32 → Int32 → Prop) (tg nx : Nat) : MonoO (o_if2 c tg nx) := by
  intro ks cl hcl Q Q' K K' ls st S hQ hK h
  unfold o_if2 at h
  split at h
  · exact ⟨fun q => hK _ _ _ _ (h.1 q), fun q => hK _ _ _ _ (h.2 q)⟩
  · exact h.elim
theorem m_dup (nx : Nat) : MonoO (o_dup nx) := by
  intro ks cl hcl Q Q' K K' ls st S hQ hK h
  unfold o_dup at h
  split at h
  · exact ⟨h.1, hK _ _ _ _ h.2⟩
  · exact h.elim
theorem m_pop (nx : Nat) : MonoO (o_pop nx) := by
  intro ks cl hcl Q Q' K K' ls st S hQ hK h
  unfold o_pop at h
  split at h
  · exact ⟨h.1, hK _ _ _ _ h.2⟩
  · exact h.elim
theorem m_dupx1 (nx : Nat) : MonoO (o_dupx1 nx) := by
  intro ks cl hcl Q Q' K K' ls st S hQ hK h
  unfold o_dupx1 at h
  split at h
  · exact ⟨h.1, h.2.1, hK _ _ _ _ h.2.2⟩
  · exact h.elim
theorem m_dup2 (nx : Nat) : MonoO (o_dup2 nx) := by
  intro ks cl hcl Q Q' K K' ls st S hQ hK h
  unfold o_dup2 at h
  split at h
  · exact ⟨h.1, h.2.1, hK _ _ _ _ h.2.2⟩
  · exact h.elim
theorem m_getI (t k nx : Nat) : MonoO (o_getI t k nx) := by
  intro ks cl hcl Q Q' K K' ls st S hQ hK h
  unfold o_getI at h
  split at h
  · exact ⟨h.1, h.2.1, hK _ _ _ _ h.2.2⟩
  · exact h.elim
theorem m_getR (t k nx : Nat) : MonoO (o_getR t k nx) := by
  intro ks cl hcl Q Q' K K' ls st S hQ hK h
  unfold o_getR at h
  split at h
  · exact ⟨h.1, h.2.1, hK _ _ _ _ h.2.2⟩
  · exact h.elim
theorem m_putI (t k : Nat) (ty : FieldType) (nx : Nat) : MonoO (o_putI t k ty nx) := by
  intro ks cl hcl Q Q' K K' ls st S hQ hK h
  unfold o_putI at h
  split at h
  · exact ⟨h.1, h.2.1, h.2.2.1, hK _ _ _ _ h.2.2.2⟩
  · exact h.elim
theorem m_putR (t k nx : Nat) : MonoO (o_putR t k nx) := by
  intro ks cl hcl Q Q' K K' ls st S hQ hK h
  unfold o_putR at h
  split at h
  · exact ⟨h.1, h.2.1, hK _ _ _ _ h.2.2⟩
  · exact h.elim
theorem m_iald (nx : Nat) : MonoO (o_iald nx) := by
  intro ks cl hcl Q Q' K K' ls st S hQ hK h
  unfold o_iald at h
  split at h
  · exact ⟨h.1, h.2.1, h.2.2.1, hK _ _ _ _ h.2.2.2⟩
  · exact h.elim
theorem m_iast (nx : Nat) : MonoO (o_iast nx) := by
  intro ks cl hcl Q Q' K K' ls st S hQ hK h
  unfold o_iast at h
  split at h
  · exact ⟨h.1, h.2.1, h.2.2.1, hK _ _ _ _ h.2.2.2⟩
  · exact h.elim
theorem m_bald (nx : Nat) : MonoO (o_bald nx) := by
  intro ks cl hcl Q Q' K K' ls st S hQ hK h
  unfold o_bald at h
  split at h
  · exact ⟨h.1, h.2.1, h.2.2.1, hK _ _ _ _ h.2.2.2⟩
  · exact h.elim
theorem m_bast (nx : Nat) : MonoO (o_bast nx) := by
  intro ks cl hcl Q Q' K K' ls st S hQ hK h
  unfold o_bast at h
  split at h
  · exact ⟨h.1, h.2.1, h.2.2.1, hK _ _ _ _ h.2.2.2⟩
  · exact h.elim
theorem m_zald (nx : Nat) : MonoO (o_zald nx) := by
  intro ks cl hcl Q Q' K K' ls st S hQ hK h
  unfold o_zald at h
  split at h
  · exact ⟨h.1, h.2.1, h.2.2.1, hK _ _ _ _ h.2.2.2⟩
  · exact h.elim
theorem m_zast (nx : Nat) : MonoO (o_zast nx) := by
  intro ks cl hcl Q Q' K K' ls st S hQ hK h
  unfold o_zast at h
  split at h
  · exact ⟨h.1, h.2.1, h.2.2.1, hK _ _ _ _ h.2.2.2⟩
  · exact h.elim
theorem m_aald (nx : Nat) : MonoO (o_aald nx) := by
  intro ks cl hcl Q Q' K K' ls st S hQ hK h
  unfold o_aald at h
  split at h
  · exact ⟨h.1, h.2.1, h.2.2.1, hK _ _ _ _ h.2.2.2⟩
  · exact h.elim
theorem m_jald (nx : Nat) : MonoO (o_jald nx) := by
  intro ks cl hcl Q Q' K K' ls st S hQ hK h
  unfold o_jald at h
  split at h
  · exact ⟨h.1, h.2.1, h.2.2.1, hK _ _ _ _ h.2.2.2⟩
  · exact h.elim
theorem m_jast (nx : Nat) : MonoO (o_jast nx) := by
  intro ks cl hcl Q Q' K K' ls st S hQ hK h
  unfold o_jast at h
  split at h
  · exact ⟨h.1, h.2.1, h.2.2.1, hK _ _ _ _ h.2.2.2⟩
  · exact h.elim
theorem m_dald (nx : Nat) : MonoO (o_dald nx) := by
  intro ks cl hcl Q Q' K K' ls st S hQ hK h
  unfold o_dald at h
  split at h
  · exact ⟨h.1, h.2.1, h.2.2.1, hK _ _ _ _ h.2.2.2⟩
  · exact h.elim
theorem m_dast (nx : Nat) : MonoO (o_dast nx) := by
  intro ks cl hcl Q Q' K K' ls st S hQ hK h
  unfold o_dast at h
  split at h
  · exact ⟨h.1, h.2.1, h.2.2.1, hK _ _ _ _ h.2.2.2⟩
  · exact h.elim
theorem m_aast (nx : Nat) : MonoO (o_aast nx) := by
  intro ks cl hcl Q Q' K K' ls st S hQ hK h
  unfold o_aast at h
  split at h
  · exact ⟨h.1, h.2.1, h.2.2.1, h.2.2.2.1, h.2.2.2.2.1, hK _ _ _ _ h.2.2.2.2.2⟩
  · exact h.elim
theorem m_castA (nx : Nat) : MonoO (o_castA nx) := by
  intro ks cl hcl Q Q' K K' ls st S hQ hK h
  unfold o_castA at h
  split at h
  · exact ⟨h.1, h.2.1, hK _ _ _ _ h.2.2⟩
  · exact h.elim
theorem m_alen (nx : Nat) : MonoO (o_alen nx) := by
  intro ks cl hcl Q Q' K K' ls st S hQ hK h
  unfold o_alen at h
  split at h
  · exact ⟨h.1, h.2.1, hK _ _ _ _ h.2.2⟩
  · exact h.elim
theorem m_new (t z nx : Nat) : MonoO (o_new t z nx) := by
  intro ks cl hcl Q Q' K K' ls st S hQ hK h
  exact ⟨h.1, h.2.1, fun a ha => hK _ _ _ _ (h.2.2 a ha)⟩
theorem m_newa (g : Nat → Prop) (nx : Nat) : MonoO (o_newa g nx) := by
  intro ks cl hcl Q Q' K K' ls st S hQ hK h
  unfold o_newa at h
  split at h
  · obtain ⟨h1, h2, h3, h4, t, h5, h6⟩ := h
    exact ⟨h1, h2, h3, h4, t, h5, fun a ha => hK _ _ _ _ (h6 a ha)⟩
  · exact h.elim
theorem m_clone (g : Nat → Prop) (nx : Nat) : MonoO (o_clone g nx) := by
  intro ks cl hcl Q Q' K K' ls st S hQ hK h
  unfold o_clone at h
  split at h
  · obtain ⟨h1, h2, h3, h4, h5, h6, t, h7, h8, h9⟩ := h
    exact ⟨h1, h2, h3, h4, h5, h6, t, h7, h8, fun a ha => hK _ _ _ _ (h9 a ha)⟩
  · exact h.elim
theorem behind_mono {Q Q' : QP} {K K' : KP} (hQ : ∀ o S, Q o S → Q' o S) (hK : ∀ pc ls st S, K pc ls st S → K' pc ls st S) {nx : Nat} {ls : List (Option Value)} {rest : List Value} : ∀ o S, behind Q K nx ls rest o S → behind Q' K' nx ls rest o S := by
  intro o S h
  match o, h with
  | .inl none, h => exact hK _ _ _ _ h
  | .inl (some v), h => exact hK _ _ _ _ h
  | .inr E, h => exact hQ _ _ h
theorem behN_mono {K K' : KP} (hK : ∀ pc ls st S, K pc ls st S → K' pc ls st S) {nx : Nat} {ls : List (Option Value)} {rest : List Value} : ∀ o S, behN K nx ls rest o S → behN K' nx ls rest o S := by
  intro o S h
  match o, h with
  | .inl none, h => exact hK _ _ _ _ h
  | .inl (some v), h => exact hK _ _ _ _ h
theorem behH_mono {K K' : KP} (hK : ∀ pc ls st S, K pc ls st S → K' pc ls st S) {hs : List (String × Nat)} {nx : Nat} {ls : List (Option Value)} {rest : List Value} : ∀ o S, behH hs K nx ls rest o S → behH hs K' nx ls rest o S := by
  intro o S h
  match o, h with
  | .inl none, h => exact hK _ _ _ _ h
  | .inl (some v), h => exact hK _ _ _ _ h
  | .inr E, ⟨z, h1, h2⟩ => exact ⟨z, h1, fun q => hK _ _ _ _ (h2 q)⟩
theorem m_callv (y n t nx : Nat) : MonoO (o_callv y n t nx) := by
  intro ks cl hcl Q Q' K K' ls st S hQ hK h
  exact ⟨h.1, h.2.1, hcl _ _ _ _ _ (behind_mono hQ hK) h.2.2⟩
theorem m_calli (y n nx : Nat) : MonoO (o_calli y n nx) := by
  intro ks cl hcl Q Q' K K' ls st S hQ hK h
  exact ⟨h.1, h.2.1, hcl _ _ _ _ _ (behN_mono hK) h.2.2⟩
theorem m_callvN (y n t nx : Nat) : MonoO (o_callvN y n t nx) := by
  intro ks cl hcl Q Q' K K' ls st S hQ hK h
  exact ⟨h.1, h.2.1, hcl _ _ _ _ _ (behN_mono hK) h.2.2⟩
theorem m_calls (y n nx : Nat) : MonoO (o_calls y n nx) := by
  intro ks cl hcl Q Q' K K' ls st S hQ hK h
  exact ⟨h.1, h.2.1, hcl _ _ _ _ _ (behind_mono hQ hK) h.2.2⟩
theorem m_callk (y n nx : Nat) : MonoO (o_callk y n nx) := by
  intro ks cl hcl Q Q' K K' ls st S hQ hK h
  exact ⟨h.1, h.2.1, hcl _ _ _ _ _ (behind_mono hQ hK) h.2.2⟩
theorem m_callvH (y n t : Nat) (hs : List (String × Nat)) (nx : Nat) : MonoO (o_callvH y n t hs nx) := by
  intro ks cl hcl Q Q' K K' ls st S hQ hK h
  exact ⟨h.1, h.2.1, hcl _ _ _ _ _ (behH_mono hK) h.2.2⟩
theorem m_objinit (nx : Nat) : MonoO (o_objinit nx) := by
  intro ks cl hcl Q Q' K K' ls st S hQ hK h
  unfold o_objinit at h
  split at h
  · exact ⟨h.1, hK _ _ _ _ h.2⟩
  · exact h.elim
theorem m_iret : MonoO (o_iret) := by
  intro ks cl hcl Q Q' K K' ls st S hQ hK h
  unfold o_iret at h
  split at h
  · exact hQ _ _ h
  · exact h.elim
theorem m_fret : MonoO (o_fret) := by
  intro ks cl hcl Q Q' K K' ls st S hQ hK h
  unfold o_fret at h
  split at h
  · exact hQ _ _ h
  · exact h.elim
theorem m_dret : MonoO (o_dret) := by
  intro ks cl hcl Q Q' K K' ls st S hQ hK h
  unfold o_dret at h
  split at h
  · exact hQ _ _ h
  · exact h.elim
theorem m_aret : MonoO (o_aret) := by
  intro ks cl hcl Q Q' K K' ls st S hQ hK h
  unfold o_aret at h
  split at h
  · exact hQ _ _ h
  · exact h.elim
theorem m_vret : MonoO (o_vret) := by
  intro ks cl hcl Q Q' K K' ls st S hQ hK h
  unfold o_vret at h
  split at h
  · exact hQ _ _ h
  · exact h.elim
theorem m_zret (ty : FieldType) : MonoO (o_zret ty) := by
  intro ks cl hcl Q Q' K K' ls st S hQ hK h
  unfold o_zret at h
  split at h
  · exact ⟨h.1, hQ _ _ h.2⟩
  · exact h.elim
theorem m_throw (E : String) : MonoO (o_throw E) := by
  intro ks cl hcl Q Q' K K' ls st S hQ hK h
  exact ⟨h.1, h.2.1, h.2.2.1, hQ _ _ h.2.2.2⟩
theorem m_acopy (nx : Nat) : MonoO (o_acopy nx) := by
  intro ks cl hcl Q Q' K K' ls st S hQ hK h
  unfold o_acopy at h
  split at h
  · exact ⟨h.1, h.2.1, h.2.2.1, h.2.2.2.1, h.2.2.2.2.1, h.2.2.2.2.2.1, h.2.2.2.2.2.2.1, h.2.2.2.2.2.2.2.1, h.2.2.2.2.2.2.2.2.1, h.2.2.2.2.2.2.2.2.2.1, hK _ _ _ _ h.2.2.2.2.2.2.2.2.2.2⟩
  · exact h.elim
theorem m_bcopy (nx : Nat) : MonoO (o_bcopy nx) := by
  intro ks cl hcl Q Q' K K' ls st S hQ hK h
  unfold o_bcopy at h
  split at h
  · exact ⟨h.1, h.2.1, h.2.2.1, h.2.2.2.1, h.2.2.2.2.1, h.2.2.2.2.2.1, h.2.2.2.2.2.2.1, h.2.2.2.2.2.2.2.1, h.2.2.2.2.2.2.2.2.1, h.2.2.2.2.2.2.2.2.2.1, h.2.2.2.2.2.2.2.2.2.2.1, hK _ _ _ _ h.2.2.2.2.2.2.2.2.2.2.2⟩
  · exact h.elim
theorem m_kval (nx : Nat) : MonoO (o_kval nx) := by
  intro ks cl hcl Q Q' K K' ls st S hQ hK h
  unfold o_kval at h
  split at h
  · obtain ⟨i, h⟩ := h
    exact ⟨i, h.1, h.2.1, hK _ _ _ _ h.2.2⟩
  · exact h.elim
theorem m_kcoder (nx : Nat) : MonoO (o_kcoder nx) := by
  intro ks cl hcl Q Q' K K' ls st S hQ hK h
  unfold o_kcoder at h
  split at h
  · obtain ⟨i, h⟩ := h
    exact ⟨i, h.1, h.2.1, hK _ _ _ _ h.2.2⟩
  · exact h.elim
theorem m_klen (nx : Nat) : MonoO (o_klen nx) := by
  intro ks cl hcl Q Q' K K' ls st S hQ hK h
  unfold o_klen at h
  split at h
  · obtain ⟨i, h⟩ := h
    exact ⟨i, h.1, h.2.1, hK _ _ _ _ h.2.2⟩
  · exact h.elim
theorem m_kald (nx : Nat) : MonoO (o_kald nx) := by
  intro ks cl hcl Q Q' K K' ls st S hQ hK h
  unfold o_kald at h
  split at h
  · obtain ⟨i, h⟩ := h
    exact ⟨i, h.1, h.2.1, h.2.2.1, hK _ _ _ _ h.2.2.2⟩
  · exact h.elim
theorem m_tald (nx : Nat) : MonoO (o_tald nx) := by
  intro ks cl hcl Q Q' K K' ls st S hQ hK h
  unfold o_tald at h
  split at h
  · exact ⟨h.1, h.2.1, fun q => hK _ _ _ _ (h.2.2.1 q), fun q => hK _ _ _ _ (h.2.2.2 q)⟩
  · exact h.elim
theorem m_getSq (nx : Nat) : MonoO (o_getSq nx) := by
  intro ks cl hcl Q Q' K K' ls st S hQ hK h
  exact fun v hv => hK _ _ _ _ (h v hv)
theorem m_tsw (tgs : List Nat) (df : Nat) : MonoO (o_tsw tgs df) := by
  intro ks cl hcl Q Q' K K' ls st S hQ hK h
  unfold o_tsw at h
  split at h
  · exact ⟨fun k hk e => hK _ _ _ _ (h.1 k hk e), fun q => hK _ _ _ _ (h.2 q)⟩
  · exact h.elim
end MONO
section RUN
variable {ks : Nat → Nat} {cl : CP} {Q Q' : QP} {tb tb' : List (Nat × Op)}
def MonoT (tb : List (Nat × Op)) : Prop := ∀ q ∈ tb, MonoO q.2
theorem Run.step (hcl : MonoC cl) (hm : MonoT tb) {pc : Nat} {op : Op} (hq : (pc, op) ∈ tb) {ls : List (Option Value)} {st : List Value} {S : M9} (h : op ks cl Q (Run ks cl Q tb) ls st S) : Run ks cl Q tb pc ls st S := by
  intro X hX
  exact hX (pc, op) hq ls st S (hm (pc, op) hq ks cl hcl Q Q _ _ ls st S (fun _ _ h => h) (fun pc ls st S h => h X hX) h)
theorem Run.post (hcl : MonoC cl) (hm : MonoT tb) (hQ : ∀ o S, Q o S → Q' o S) {pc : Nat} {ls : List (Option Value)} {st : List Value} {S : M9} (h : Run ks cl Q tb pc ls st S) : Run ks cl Q' tb pc ls st S := by
  refine h (Run ks cl Q' tb) fun q hq ls st S hh => ?_
  exact Run.step hcl hm hq (hm q hq ks cl hcl Q Q' _ _ ls st S hQ (fun _ _ _ _ h => h) hh)
theorem Run.sub (hcl : MonoC cl) (hm : MonoT tb') (ht : ∀ q ∈ tb, q ∈ tb') {pc : Nat} {ls : List (Option Value)} {st : List Value} {S : M9} (h : Run ks cl Q tb pc ls st S) : Run ks cl Q tb' pc ls st S :=
  h (Run ks cl Q tb') fun q hq _ _ _ hh => Run.step hcl hm (ht q hq) hh
def look : List (Nat × Op) → Nat → Option Op
  | [], _ => none
  | q :: r, pc => if q.1 = pc then some q.2 else look r pc
theorem look_mem : ∀ (tb : List (Nat × Op)) (pc : Nat) (op : Op), look tb pc = some op → (pc, op) ∈ tb := by
  intro tb
  induction tb with
  | nil => intro pc op h; cases h
  | cons q r ih =>
    intro pc op h
    unfold look at h
    by_cases e : q.1 = pc
    · rw [if_pos e] at h
      cases h
      subst e
      exact List.mem_cons_self
    · rw [if_neg e] at h
      exact List.mem_cons_of_mem _ (ih pc op h)
/-- the run by the text, n instructions far, or to one of the places in cut -/
def ev (ks : Nat → Nat) (cl : CP) (Q : QP) (tb : List (Nat × Op)) (cut : List Nat) : Nat → KP
  | 0 => fun pc ls st S => Run ks cl Q tb pc ls st S
  | n + 1 => fun pc ls st S => if pc ∈ cut then Run ks cl Q tb pc ls st S else match look tb pc with
    | some op => op ks cl Q (ev ks cl Q tb cut n) ls st S
    | none => False
theorem ev_run (hcl : MonoC cl) (hm : MonoT tb) (cut : List Nat) : ∀ (n pc : Nat) (ls : List (Option Value)) (st : List Value) (S : M9), ev ks cl Q tb cut n pc ls st S → Run ks cl Q tb pc ls st S := by
  intro n
  induction n with
  | zero => intro pc ls st S h; exact h
  | succ n ih =>
    intro pc ls st S h
    unfold ev at h
    by_cases e : pc ∈ cut
    · rw [if_pos e] at h; exact h
    · rw [if_neg e] at h
      cases hl : look tb pc with
      | none => rw [hl] at h; exact h.elim
      | some op =>
        rw [hl] at h
        have hq := look_mem tb pc op hl
        exact Run.step hcl hm hq (hm _ hq ks cl hcl Q Q _ _ ls st S (fun _ _ h => h) ih h)
/-- one instruction ahead, then on by the text -/
theorem ev_run1 (hcl : MonoC cl) (hm : MonoT tb) (cut : List Nat) (n : Nat) {pc : Nat} {ls : List (Option Value)} {st : List Value} {S : M9} (h : match look tb pc with
    | some op => op ks cl Q (ev ks cl Q tb cut n) ls st S
    | none => False) : Run ks cl Q tb pc ls st S := by
  cases hl : look tb pc with
  | none => rw [hl] at h; exact h.elim
  | some op =>
    rw [hl] at h
    have hq := look_mem tb pc op hl
    exact Run.step hcl hm hq (hm _ hq ks cl hcl Q Q _ _ ls st S (fun _ _ h => h) (ev_run hcl hm cut n) h)
end RUN
theorem wpm_mono {mt : List MR} (hm : ∀ q ∈ mt, MonoT q.2.2.2.2.2) (ks : Nat → Nat) : ∀ d, MonoC (WPM mt ks d) := by
  intro d
  induction d with
  | zero => intro y As S Q Q' _ h; exact h.elim
  | succ d ih =>
    intro y As S Q Q' hQ h
    refine ⟨h.1, h.2.1, Run.post ih ?_ hQ h.2.2⟩
    by_cases hy : y < mt.length
    · exact hm _ (by rw [List.getD, List.getElem?_eq_getElem hy]; exact List.getElem_mem hy)
    · have e : mt.getD y mr0 = mr0 := by simp [List.getD, List.getElem?_eq_none (Nat.le_of_not_lt hy)]
      rw [e]
      exact fun q hq => absurd hq List.not_mem_nil
