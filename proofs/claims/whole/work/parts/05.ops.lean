/-! INSTRUCTIONS as predicates: what must hold ahead of an instruction for K to hold behind it (K: place in the code, locals, stack, memory), and Q where the method ends (with a value, with none, or with a thrown class) -/
abbrev KP : Type := Nat → List (Option Value) → List Value → M9 → Prop
abbrev QP : Type := Option Value ⊕ String → M9 → Prop
abbrev CP : Type := Nat → List Value → M9 → QP → Prop
abbrev Op : Type := (Nat → Nat) → CP → QP → KP → List (Option Value) → List Value → M9 → Prop
def cCM : Nat := 601024
def cSM : Nat := 7293034
def o_const (v : Value) (nx : Nat) : Op := fun _ _ _ K ls st S => K nx ls (v :: st) S
def o_iload (k nx : Nat) : Op := fun _ _ _ K ls st S => match gl ls k with
  | some (.int x) => K nx ls (.int x :: st) S
  | _ => False
def o_aload (k nx : Nat) : Op := fun _ _ _ K ls st S => match gl ls k with
  | some (.ref x) => K nx ls (.ref x :: st) S
  | _ => False
def o_fload (k nx : Nat) : Op := fun _ _ _ K ls st S => match gl ls k with
  | some (.float x) => K nx ls (.float x :: st) S
  | _ => False
def o_dload (k nx : Nat) : Op := fun _ _ _ K ls st S => match gl ls k with
  | some (.double x) => K nx ls (.double x :: st) S
  | _ => False
def o_istore (k nx : Nat) : Op := fun _ _ _ K ls st S => match st with
  | .int v :: r => pre2 ls k ∧ k < ls.length ∧ K nx (stl ls k (.int v)) r S
  | _ => False
def o_astore (k nx : Nat) : Op := fun _ _ _ K ls st S => match st with
  | .ref v :: r => pre2 ls k ∧ k < ls.length ∧ K nx (stl ls k (.ref v)) r S
  | _ => False
def o_fstore (k nx : Nat) : Op := fun _ _ _ K ls st S => match st with
  | .float v :: r => pre2 ls k ∧ k < ls.length ∧ K nx (stl ls k (.float v)) r S
  | _ => False
def o_dstore (k nx : Nat) : Op := fun _ _ _ K ls st S => match st with
  | .double v :: r => pre2 ls k ∧ k + 1 < ls.length ∧ K nx (stl2 ls k (.double v)) r S
  | _ => False
def o_iinc (k : Nat) (n : Int32) (nx : Nat) : Op := fun _ _ _ K ls st S => match gl ls k with
  | some (.int x) => pre2 ls k ∧ K nx (stl ls k (.int (x + n))) st S
  | _ => False
def o_bin (f : Int32 → Int32 → Int32) (nx : Nat) : Op := fun _ _ _ K ls st S => match st with
  | .int y :: .int x :: r => K nx ls (.int (f x y) :: r) S
  | _ => False
def o_div (f : Int32 → Int32 → Int32) (nx : Nat) : Op := fun _ _ _ K ls st S => match st with
  | .int y :: .int x :: r => ¬ y = 0 ∧ K nx ls (.int (f x y) :: r) S
  | _ => False
def o_un (f : Int32 → Int32) (nx : Nat) : Op := fun _ _ _ K ls st S => match st with
  | .int x :: r => K nx ls (.int (f x) :: r) S
  | _ => False
def o_i2l (nx : Nat) : Op := fun _ _ _ K ls st S => match st with
  | .int x :: r => K nx ls (.long x.toInt64 :: r) S
  | _ => False
def o_i2f (nx : Nat) : Op := fun _ _ _ K ls st S => match st with
  | .int x :: r => K nx ls (.float (FP.i2f x) :: r) S
  | _ => False
def o_i2d (nx : Nat) : Op := fun _ _ _ K ls st S => match st with
  | .int x :: r => K nx ls (.double (FP.i2d x) :: r) S
  | _ => False
def o_f2d (nx : Nat) : Op := fun _ _ _ K ls st S => match st with
  | .float x :: r => vf_n64 (FP.f2d x) ∧ K nx ls (.double (FP.f2d x) :: r) S
  | _ => False
def o_fdiv (nx : Nat) : Op := fun _ _ _ K ls st S => match st with
  | .float y :: .float x :: r => vf_n32 (FP.fdiv x y) ∧ K nx ls (.float (FP.fdiv x y) :: r) S
  | _ => False
def o_ddiv (nx : Nat) : Op := fun _ _ _ K ls st S => match st with
  | .double y :: .double x :: r => vf_n64 (FP.ddiv x y) ∧ K nx ls (.double (FP.ddiv x y) :: r) S
  | _ => False
def o_lcmp (nx : Nat) : Op := fun _ _ _ K ls st S => match st with
  | .long y :: .long x :: r => K nx ls (.int (lg_cmp x y) :: r) S
  | _ => False
def o_fcmp (op : CmpOp) (nx : Nat) : Op := fun _ _ _ K ls st S => match st with
  | .float y :: .float x :: r => K nx ls (.int (Op.cmpValue (FP.fcmp x y) op) :: r) S
  | _ => False
def o_dcmp (op : CmpOp) (nx : Nat) : Op := fun _ _ _ K ls st S => match st with
  | .double y :: .double x :: r => K nx ls (.int (Op.cmpValue (FP.dcmp x y) op) :: r) S
  | _ => False
def o_if (c : Int32 → Prop) (tg nx : Nat) : Op := fun _ _ _ K ls st S => match st with
  | .int x :: r => (c x → K tg ls r S) ∧ (¬ c x → K nx ls r S)
  | _ => False
def o_if2 (c : Int32 → Int32 → Prop) (tg nx : Nat) : Op := fun _ _ _ K ls st S => match st with
  | .int y :: .int x :: r => (c x y → K tg ls r S) ∧ (¬ c x y → K nx ls r S)
  | _ => False
def o_goto (tg : Nat) : Op := fun _ _ _ K ls st S => K tg ls st S
def o_dup (nx : Nat) : Op := fun _ _ _ K ls st S => match st with
  | v :: r => v.category = 1 ∧ K nx ls (v :: v :: r) S
  | _ => False
def o_dupx1 (nx : Nat) : Op := fun _ _ _ K ls st S => match st with
  | v :: w :: r => v.category = 1 ∧ w.category = 1 ∧ K nx ls (v :: w :: v :: r) S
  | _ => False
def o_dup2 (nx : Nat) : Op := fun _ _ _ K ls st S => match st with
  | v :: w :: r => v.category = 1 ∧ w.category = 1 ∧ K nx ls (v :: w :: v :: w :: r) S
  | _ => False
def o_pop (nx : Nat) : Op := fun _ _ _ K ls st S => match st with
  | v :: r => v.category = 1 ∧ K nx ls r S
  | _ => False
def o_getI (t k nx : Nat) : Op := fun _ _ _ K ls st S => match st with
  | .ref a :: r => a ∈ gL S ∧ gK S a = t ∧ K nx ls (.int (gI S t a k) :: r) S
  | _ => False
def o_getR (t k nx : Nat) : Op := fun _ _ _ K ls st S => match st with
  | .ref a :: r => a ∈ gL S ∧ gK S a = t ∧ K nx ls (va_rf (gR S t a k) :: r) S
  | _ => False
def o_putI (t k : Nat) (ty : FieldType) (nx : Nat) : Op := fun _ _ _ K ls st S => match st with
  | .int v :: .ref a :: r => a ∈ gL S ∧ gK S a = t ∧ (narrow ty (.int v) = .int v ∧ fits ty (.int v) = true) ∧ K nx ls r (sI S t a k v)
  | _ => False
def o_putR (t k nx : Nat) : Op := fun _ _ _ K ls st S => match st with
  | .ref v :: .ref a :: r => a ∈ gL S ∧ gK S a = t ∧ K nx ls r (sR S t a k (some v))
  | _ => False
def o_iald (nx : Nat) : Op := fun _ _ _ K ls st S => match st with
  | .int i :: .ref a :: r => a ∈ gL S ∧ 17 ≤ gK S a ∧ vp_in i (gN S a) ∧ K nx ls (.int (gI S (gK S a) a i.toNatClampNeg) :: r) S
  | _ => False
def o_iast (nx : Nat) : Op := fun _ _ _ K ls st S => match st with
  | .int x :: .int i :: .ref a :: r => a ∈ gL S ∧ 17 ≤ gK S a ∧ vp_in i (gN S a) ∧ K nx ls r (sI S (gK S a) a i.toNatClampNeg x)
  | _ => False
def o_bald (nx : Nat) : Op := fun _ _ _ K ls st S => match st with
  | .int i :: .ref a :: r => a ∈ gL S ∧ gK S a = 15 ∧ vp_in i (gN S a) ∧ K nx ls (.int (gI S 15 a i.toNatClampNeg) :: r) S
  | _ => False
def o_bast (nx : Nat) : Op := fun _ _ _ K ls st S => match st with
  | .int x :: .int i :: .ref a :: r => a ∈ gL S ∧ gK S a = 15 ∧ vp_in i (gN S a) ∧ K nx ls r (sI S 15 a i.toNatClampNeg (vp_nar .byte x))
  | _ => False
def o_zald (nx : Nat) : Op := fun _ _ _ K ls st S => match st with
  | .int i :: .ref a :: r => a ∈ gL S ∧ gK S a = 16 ∧ vp_in i (gN S a) ∧ K nx ls (.int (gI S 16 a i.toNatClampNeg) :: r) S
  | _ => False
def o_zast (nx : Nat) : Op := fun _ _ _ K ls st S => match st with
  | .int x :: .int i :: .ref a :: r => a ∈ gL S ∧ gK S a = 16 ∧ vp_in i (gN S a) ∧ K nx ls r (sI S 16 a i.toNatClampNeg (vp_nar .boolean x))
  | _ => False
def o_aald (nx : Nat) : Op := fun _ _ _ K ls st S => match st with
  | .int i :: .ref a :: r => a ∈ gL S ∧ gK S a = 12 ∧ vp_in i (gN S a) ∧ K nx ls (va_rf (gR S 12 a i.toNatClampNeg) :: r) S
  | _ => False
def o_aast (nx : Nat) : Op := fun _ _ _ K ls st S => match st with
  | .ref v :: .int i :: .ref a :: r => a ∈ gL S ∧ gK S a = 12 ∧ v ∈ gL S ∧ gK S v = 9 ∧ vp_in i (gN S a) ∧ K nx ls r (sR S 12 a i.toNatClampNeg (some v))
  | _ => False
def o_jald (nx : Nat) : Op := fun _ _ _ K ls st S => match st with
  | .int i :: .ref a :: r => a ∈ gL S ∧ gK S a = 13 ∧ vp_in i (gN S a) ∧ K nx ls (.long (gJ S a i.toNatClampNeg) :: r) S
  | _ => False
def o_jast (nx : Nat) : Op := fun _ _ _ K ls st S => match st with
  | .long x :: .int i :: .ref a :: r => a ∈ gL S ∧ gK S a = 13 ∧ vp_in i (gN S a) ∧ K nx ls r (sJ S a i.toNatClampNeg x)
  | _ => False
def o_dald (nx : Nat) : Op := fun _ _ _ K ls st S => match st with
  | .int i :: .ref a :: r => a ∈ gL S ∧ gK S a = 14 ∧ vp_in i (gN S a) ∧ K nx ls (.double (gD S a i.toNatClampNeg) :: r) S
  | _ => False
def o_dast (nx : Nat) : Op := fun _ _ _ K ls st S => match st with
  | .double x :: .int i :: .ref a :: r => a ∈ gL S ∧ gK S a = 14 ∧ vp_in i (gN S a) ∧ K nx ls r (sD S a i.toNatClampNeg x)
  | _ => False
def o_alen (nx : Nat) : Op := fun _ _ _ K ls st S => match st with
  | .ref a :: r => a ∈ gL S ∧ 12 ≤ gK S a ∧ K nx ls (.int (nI (gN S a)) :: r) S
  | _ => False
/-- a cast of an int array -/
def o_castA (nx : Nat) : Op := fun _ _ _ K ls st S => match st with
  | .ref a :: r => a ∈ gL S ∧ 17 ≤ gK S a ∧ K nx ls (.ref a :: r) S
  | _ => False
/-- a new object of kind t, with z slots -/
def o_new (t z nx : Nat) : Op := fun _ _ _ K ls st S => gC S + 1 ≤ cCM ∧ gZ S + z ≤ cSM ∧ ∀ a, a ∉ gL S → K nx ls (.ref a :: st) (nW S t a 0 z)
/-- a new array of a kind that g allows -/
def o_newa (g : Nat → Prop) (nx : Nat) : Op := fun _ _ _ K ls st S => match st with
  | .int n :: r => ¬ n < 0 ∧ n.toNatClampNeg ≤ 1000000 ∧ gC S + 1 ≤ cCM ∧ gZ S + n.toNatClampNeg ≤ cSM ∧ ∃ t, g t ∧ ∀ a, a ∉ gL S → K nx ls (.ref a :: r) (nW S t a n.toNatClampNeg n.toNatClampNeg)
  | _ => False
/-- the words that a list of values takes -/
def catS (st : List Value) : Nat := (st.map fun v => v.category).sum
/-- what comes behind a call -/
def behind (Q : QP) (K : KP) (nx : Nat) (ls : List (Option Value)) (rest : List Value) : QP := fun o S' => match o with
  | .inl none => K nx ls rest S'
  | .inl (some v) => K nx ls (v :: rest) S'
  | .inr E => Q (.inr E) S'
/-- behind a call that throws nothing -/
def behN (K : KP) (nx : Nat) (ls : List (Option Value)) (rest : List Value) : QP := fun o S' => match o with
  | .inl none => K nx ls rest S'
  | .inl (some v) => K nx ls (v :: rest) S'
  | .inr _ => False
/-- a call of method y with n arguments (the receiver too), the receiver of kind t -/
def o_callv (y n t nx : Nat) : Op := fun _ cl Q K ls st S => catS (st.drop n) ≤ 8 ∧ (∃ b r, (st.take n).reverse = .ref b :: r ∧ r.length + 1 = n ∧ b ∈ gL S ∧ gK S b = t) ∧ cl y (st.take n).reverse S (behind Q K nx ls (st.drop n))
/-- a call of an inherited method, or of super's: it throws nothing -/
def o_callvN (y n t nx : Nat) : Op := fun _ cl _ K ls st S => catS (st.drop n) ≤ 8 ∧ (∃ b r, (st.take n).reverse = .ref b :: r ∧ r.length + 1 = n ∧ b ∈ gL S ∧ gK S b = t) ∧ cl y (st.take n).reverse S (behN K nx ls (st.drop n))
/-- of a constructor, or a method of the same class by invokespecial -/
def o_calli (y n nx : Nat) : Op := fun _ cl _ K ls st S => catS (st.drop n) ≤ 8 ∧ (∃ b r, (st.take n).reverse = .ref b :: r ∧ r.length + 1 = n) ∧ cl y (st.take n).reverse S (behN K nx ls (st.drop n))
def o_calls (y n nx : Nat) : Op := fun _ cl Q K ls st S => catS (st.drop n) ≤ 8 ∧ (st.take n).length = n ∧ cl y (st.take n).reverse S (behind Q K nx ls (st.drop n))
/-- the constructor of Object -/
def o_objinit (nx : Nat) : Op := fun _ _ _ K ls st S => match st with
  | .ref _ :: r => catS r ≤ 8 ∧ K nx ls r S
  | _ => False
def o_iret : Op := fun _ _ Q _ _ st S => match st with
  | [.int v] => Q (.inl (some (.int v))) S
  | _ => False
def o_zret (ty : FieldType) : Op := fun _ _ Q _ _ st S => match st with
  | [.int v] => narrow ty (.int v) = .int v ∧ Q (.inl (some (.int v))) S
  | _ => False
def o_fret : Op := fun _ _ Q _ _ st S => match st with
  | [.float v] => Q (.inl (some (.float v))) S
  | _ => False
def o_dret : Op := fun _ _ Q _ _ st S => match st with
  | [.double v] => Q (.inl (some (.double v))) S
  | _ => False
def o_aret : Op := fun _ _ Q _ _ st S => match st with
  | [.ref v] => Q (.inl (some (.ref v))) S
  | _ => False
def o_vret : Op := fun _ _ Q _ _ st S => match st with
  | [] => Q (.inl none) S
  | _ => False
/-- new, dup, ldc of a text, the constructor, athrow -/
def o_throw (E : String) : Op := fun _ _ Q _ _ st S => catS st ≤ 8 ∧ gC S + 1 ≤ cCM ∧ gZ S + 6 ≤ cSM ∧ Q (.inr E) (sC S 1 6)
/-- System.arraycopy of int arrays -/
def o_acopy (nx : Nat) : Op := fun _ _ _ K ls st S => match st with
  | .int n :: .int dp :: .ref d :: .int sp :: .ref a :: r => catS r ≤ 8 ∧ a ∈ gL S ∧ 17 ≤ gK S a ∧ d ∈ gL S ∧ 17 ≤ gK S d ∧ ¬ sp < 0 ∧ ¬ dp < 0 ∧ ¬ n < 0 ∧ sp.toNatClampNeg + n.toNatClampNeg ≤ gN S a ∧ dp.toNatClampNeg + n.toNatClampNeg ≤ gN S d ∧
      K nx ls r (sW S (gK S d) d (va_cpy (gI S (gK S a) a) (gI S (gK S d) d) sp.toNatClampNeg dp.toNatClampNeg n.toNatClampNeg))
  | _ => False
/-- tableswitch from 0 on -/
def o_tsw (tgs : List Nat) (df : Nat) : Op := fun _ _ _ K ls st S => match st with
  | .int x :: r => (∀ k, k < tgs.length → x = nI k → K (tgs.getD k 0) ls r S) ∧ ((x < 0 ∨ nI tgs.length ≤ x) → K df ls r S)
  | _ => False
/-- System.arraycopy of byte arrays -/
def o_bcopy (nx : Nat) : Op := fun _ _ _ K ls st S => match st with
  | .int n :: .int dp :: .ref d :: .int sp :: .ref a :: r => catS r ≤ 8 ∧ a ∈ gL S ∧ gK S a = 15 ∧ d ∈ gL S ∧ gK S d = 15 ∧ ¬ sp < 0 ∧ ¬ dp < 0 ∧ ¬ n < 0 ∧ sp.toNatClampNeg + n.toNatClampNeg ≤ gN S a ∧ dp.toNatClampNeg + n.toNatClampNeg ≤ gN S d ∧
      (∀ i, i < n.toNatClampNeg → fits .byte (.int (gI S 15 a (sp.toNatClampNeg + i))) = true) ∧
      K nx ls r (sW S 15 d (va_cpy (gI S 15 a) (gI S 15 d) sp.toNatClampNeg dp.toNatClampNeg n.toNatClampNeg))
  | _ => False
/-- the clone of an int array, of a kind that g allows -/
def o_clone (g : Nat → Prop) (nx : Nat) : Op := fun _ _ _ K ls st S => match st with
  | .ref a :: r => catS r ≤ 8 ∧ a ∈ gL S ∧ 17 ≤ gK S a ∧ gN S a ≤ 1000000 ∧ gC S + 1 ≤ cCM ∧ gZ S + gN S a ≤ cSM ∧ ∃ t, 17 ≤ t ∧ g t ∧ ∀ b, b ∉ gL S → K nx ls (.ref b :: r) (sW (nW S t b (gN S a) (gN S a)) t b (gI S (gK S a) a))
  | _ => False
/-! literals and tables of the JDK: ks 0, 1, 2 are the words, ks 3, 4, 5 their bytes, ks 10 and 11 the digits' tables -/
def kLen : List Nat := [10, 6, 4]
def kByt : List (List Int32) := [[99, 111, 109, 112, 97, 114, 97, 116, 111, 114], [119, 101, 105, 103, 104, 116], [115, 101, 101, 100]]
def o_ldcS (i nx : Nat) : Op := fun ks _ _ K ls st S => K nx ls (.ref (ks i) :: st) S
def o_kval (nx : Nat) : Op := fun ks _ _ K ls st S => match st with
  | .ref a :: r => ∃ i, i < 3 ∧ a = ks i ∧ K nx ls (.ref (ks (3 + i)) :: r) S
  | _ => False
def o_kcoder (nx : Nat) : Op := fun ks _ _ K ls st S => match st with
  | .ref a :: r => ∃ i, i < 3 ∧ a = ks i ∧ K nx ls (.int 0 :: r) S
  | _ => False
def o_klen (nx : Nat) : Op := fun ks _ _ K ls st S => match st with
  | .ref a :: r => ∃ i, i < 3 ∧ a = ks (3 + i) ∧ K nx ls (.int (nI (kLen.getD i 0)) :: r) S
  | _ => False
def o_kald (nx : Nat) : Op := fun ks _ _ K ls st S => match st with
  | .int k :: .ref a :: r => ∃ i, i < 3 ∧ a = ks (3 + i) ∧ vp_in k (kLen.getD i 0) ∧ K nx ls (.int ((kByt.getD i []).getD k.toNatClampNeg 0) :: r) S
  | _ => False
def o_tald (nx : Nat) : Op := fun ks _ _ K ls st S => match st with
  | .int k :: .ref a :: r => vp_in k 100 ∧ (a = ks 10 ∨ a = ks 11) ∧ (a = ks 10 → K nx ls (.int (nI (48 + k.toNatClampNeg / 10)) :: r) S) ∧ (¬ a = ks 10 → K nx ls (.int (nI (48 + k.toNatClampNeg % 10)) :: r) S)
  | _ => False
/-- a static of the JDK that holds a reference or null -/
def o_getSq (nx : Nat) : Op := fun _ _ _ K ls st S => ∀ v : Value, (v = .null ∨ ∃ a, v = .ref a) → K nx ls (v :: st) S
/-- a call on a literal -/
def o_callk (y n nx : Nat) : Op := fun ks cl Q K ls st S => catS (st.drop n) ≤ 8 ∧ (∃ i r, i < 3 ∧ (st.take n).reverse = .ref (ks i) :: r ∧ r.length + 1 = n) ∧ cl y (st.take n).reverse S (behind Q K nx ls (st.drop n))
/-- a table's method: from an instruction's place, what holds if it is run to its end -/
def Run (ks : Nat → Nat) (cl : CP) (Q : QP) (tb : List (Nat × Op)) (pc : Nat) (ls : List (Option Value)) (st : List Value) (S : M9) : Prop :=
  ∀ X : KP, (∀ q ∈ tb, ∀ ls st S, q.2 ks cl Q X ls st S → X q.1 ls st S) → X pc ls st S
