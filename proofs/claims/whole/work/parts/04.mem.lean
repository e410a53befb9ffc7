/-! THE MEMORY: every cell that the law has made, as maps by kind, address and place; one view of a cell of the machine's heap -/
abbrev M9 : Type := (Nat → Nat → Nat → Int32) × (Nat → Nat → Nat → Option Nat) × (Nat → Nat → Int64) × (Nat → Nat → UInt64) × (Nat → Nat) × (Nat → Nat) × List Nat × Nat × Nat
def gI (S : M9) : Nat → Nat → Nat → Int32 := S.1
def gR (S : M9) : Nat → Nat → Nat → Option Nat := S.2.1
def gJ (S : M9) : Nat → Nat → Int64 := S.2.2.1
def gD (S : M9) : Nat → Nat → UInt64 := S.2.2.2.1
def gN (S : M9) : Nat → Nat := S.2.2.2.2.1
def gK (S : M9) : Nat → Nat := S.2.2.2.2.2.1
def gL (S : M9) : List Nat := S.2.2.2.2.2.2.1
def gC (S : M9) : Nat := S.2.2.2.2.2.2.2.1
def gZ (S : M9) : Nat := S.2.2.2.2.2.2.2.2
def u3 {α : Type} (f : Nat → Nat → α) (t a : Nat) (x : α) : Nat → Nat → α := fun t' a' => if t' = t ∧ a' = a then x else f t' a'
def u2 {α : Type} (f : Nat → α) (a : Nat) (x : α) : Nat → α := fun a' => if a' = a then x else f a'
/-- the numbers of kind t at a become f -/
def sW (S : M9) (t a : Nat) (f : Nat → Int32) : M9 := (u3 S.1 t a f, S.2)
def sI (S : M9) (t a k : Nat) (v : Int32) : M9 := sW S t a (upd (gI S t a) k v)
def sR (S : M9) (t a k : Nat) (v : Option Nat) : M9 := (S.1, u3 S.2.1 t a (va_up (gR S t a) k v), S.2.2)
def sJ (S : M9) (a k : Nat) (v : Int64) : M9 := (S.1, S.2.1, u2 S.2.2.1 a (va_up (gJ S a) k v), S.2.2.2)
def sD (S : M9) (a k : Nat) (v : UInt64) : M9 := (S.1, S.2.1, S.2.2.1, u2 S.2.2.2.1 a (va_up (gD S a) k v), S.2.2.2.2)
/-- c cells and z slots more have been used -/
def sC (S : M9) (c z : Nat) : M9 := (S.1, S.2.1, S.2.2.1, S.2.2.2.1, S.2.2.2.2.1, S.2.2.2.2.2.1, S.2.2.2.2.2.2.1, gC S + c, gZ S + z)
/-- a new cell at a of kind t, of n places, all zero, of z slots -/
def nW (S : M9) (t a n z : Nat) : M9 := (u3 S.1 t a (fun _ => 0), u3 S.2.1 t a (fun _ => none), u2 S.2.2.1 a (fun _ => 0), u2 S.2.2.2.1 a (fun _ => 0), u2 S.2.2.2.2.1 a n, u2 S.2.2.2.2.2.1 a t, S.2.2.2.2.2.2.1 ++ [a], gC S + 1, gZ S + z)
section MemRows
variable (S : M9) (t t' a a' k n z c : Nat) (f : Nat → Int32) (v : Int32) (r : Option Nat) (j : Int64) (d : UInt64)
theorem gI_sW : gI (sW S t a f) t' a' = if t' = t ∧ a' = a then f else gI S t' a' := rfl
theorem gR_sW : gR (sW S t a f) = gR S := rfl
theorem gJ_sW : gJ (sW S t a f) = gJ S := rfl
theorem gD_sW : gD (sW S t a f) = gD S := rfl
theorem gN_sW : gN (sW S t a f) = gN S := rfl
theorem gK_sW : gK (sW S t a f) = gK S := rfl
theorem gL_sW : gL (sW S t a f) = gL S := rfl
theorem gC_sW : gC (sW S t a f) = gC S := rfl
theorem gZ_sW : gZ (sW S t a f) = gZ S := rfl
theorem gI_sI : gI (sI S t a k v) t' a' = if t' = t ∧ a' = a then upd (gI S t a) k v else gI S t' a' := rfl
theorem gR_sI : gR (sI S t a k v) = gR S := rfl
theorem gJ_sI : gJ (sI S t a k v) = gJ S := rfl
theorem gD_sI : gD (sI S t a k v) = gD S := rfl
theorem gN_sI : gN (sI S t a k v) = gN S := rfl
theorem gK_sI : gK (sI S t a k v) = gK S := rfl
theorem gL_sI : gL (sI S t a k v) = gL S := rfl
theorem gC_sI : gC (sI S t a k v) = gC S := rfl
theorem gZ_sI : gZ (sI S t a k v) = gZ S := rfl
theorem gR_sR : gR (sR S t a k r) t' a' = if t' = t ∧ a' = a then va_up (gR S t a) k r else gR S t' a' := rfl
theorem gI_sR : gI (sR S t a k r) = gI S := rfl
theorem gJ_sR : gJ (sR S t a k r) = gJ S := rfl
theorem gD_sR : gD (sR S t a k r) = gD S := rfl
theorem gN_sR : gN (sR S t a k r) = gN S := rfl
theorem gK_sR : gK (sR S t a k r) = gK S := rfl
theorem gL_sR : gL (sR S t a k r) = gL S := rfl
theorem gC_sR : gC (sR S t a k r) = gC S := rfl
theorem gZ_sR : gZ (sR S t a k r) = gZ S := rfl
theorem gJ_sJ : gJ (sJ S a k j) a' = if a' = a then va_up (gJ S a) k j else gJ S a' := rfl
theorem gI_sJ : gI (sJ S a k j) = gI S := rfl
theorem gR_sJ : gR (sJ S a k j) = gR S := rfl
theorem gD_sJ : gD (sJ S a k j) = gD S := rfl
theorem gN_sJ : gN (sJ S a k j) = gN S := rfl
theorem gK_sJ : gK (sJ S a k j) = gK S := rfl
theorem gL_sJ : gL (sJ S a k j) = gL S := rfl
theorem gC_sJ : gC (sJ S a k j) = gC S := rfl
theorem gZ_sJ : gZ (sJ S a k j) = gZ S := rfl
theorem gD_sD : gD (sD S a k d) a' = if a' = a then va_up (gD S a) k d else gD S a' := rfl
theorem gI_sD : gI (sD S a k d) = gI S := rfl
theorem gR_sD : gR (sD S a k d) = gR S := rfl
theorem gJ_sD : gJ (sD S a k d) = gJ S := rfl
theorem gN_sD : gN (sD S a k d) = gN S := rfl
theorem gK_sD : gK (sD S a k d) = gK S := rfl
theorem gL_sD : gL (sD S a k d) = gL S := rfl
theorem gC_sD : gC (sD S a k d) = gC S := rfl
theorem gZ_sD : gZ (sD S a k d) = gZ S := rfl
theorem gI_sC : gI (sC S c z) = gI S := rfl
theorem gR_sC : gR (sC S c z) = gR S := rfl
theorem gJ_sC : gJ (sC S c z) = gJ S := rfl
theorem gD_sC : gD (sC S c z) = gD S := rfl
theorem gN_sC : gN (sC S c z) = gN S := rfl
theorem gK_sC : gK (sC S c z) = gK S := rfl
theorem gL_sC : gL (sC S c z) = gL S := rfl
theorem gC_sC : gC (sC S c z) = gC S + c := rfl
theorem gZ_sC : gZ (sC S c z) = gZ S + z := rfl
theorem gI_nW : gI (nW S t a n z) t' a' = if t' = t ∧ a' = a then (fun _ => 0) else gI S t' a' := rfl
theorem gR_nW : gR (nW S t a n z) t' a' = if t' = t ∧ a' = a then (fun _ => none) else gR S t' a' := rfl
theorem gJ_nW : gJ (nW S t a n z) a' = if a' = a then (fun _ => 0) else gJ S a' := rfl
theorem gD_nW : gD (nW S t a n z) a' = if a' = a then (fun _ => 0) else gD S a' := rfl
theorem gN_nW : gN (nW S t a n z) a' = if a' = a then n else gN S a' := rfl
theorem gK_nW : gK (nW S t a n z) a' = if a' = a then t else gK S a' := rfl
theorem gL_nW : gL (nW S t a n z) = gL S ++ [a] := rfl
theorem gC_nW : gC (nW S t a n z) = gC S + 1 := rfl
theorem gZ_nW : gZ (nW S t a n z) = gZ S + z := rfl
end MemRows
/-- the classes whose objects the memory holds; a kind below 12 is a place here -/
abbrev kCl : List vw_C := [(RJ0, TJ0, 4), (RJ4, TJ4, 4), (RX0, TX0, 3), (RX1, TX1, 6), (RX2, TX2, 6), (RX3, TX3, 7), (RX4, TX4, 3), (RX5, TX5, 8), (RX6, TX6, 3), (RX7, TX7, 6), (RX8, TX8, 10), (RX9, TX9, 29)]
/-- which fields of a class hold references -/
def fk (t : Nat) : List Bool := match t with
  | 0 => [true, false, false, false]
  | 1 => [true, false, false, false]
  | 2 => [true, false, false]
  | 3 => [true, true, true, true, false, false]
  | 4 => [true, true, false, false, false, false]
  | 5 => [true, false, false, false, true, false, false]
  | 6 => [true, true, false]
  | 7 => [false, true, true, false, true, true, true, false]
  | 8 => [false, true, false]
  | 9 => [true, true, false, true, true, true]
  | 10 => [true, false, false, true, true, true, false, true, true, true]
  | 11 => [true, true, true, true, true, false, false, true, false, false, false, false, false, false, false, false, false, true, true, true, false, false, true, true, true, false, false, true, false]
  | _ => []
/-- kinds of arrays: 12 State[], 13 long[], 14 double[], 15 byte[], 16 boolean[], from 17 on int[] -/
def ay (t : Nat) : Nat := if t = 12 then 0 else if t = 13 then 1 else if t = 14 then 2 else if t = 15 then 3 else if t = 16 then 4 else 5
abbrev tyL (cy : Nat → ClassId) : List (ClassId × FieldType) := [(cy 0, .object "TrialConverter$State"), (cy 1, .long), (cy 2, .double), (cy 3, .byte), (cy 4, .boolean), (cy 5, .int)]
def fl (S : M9) (t a : Nat) : List Value := (fk t).mapIdx (fun j b => if b then va_rf (gR S t a j) else Value.int (gI S t a j))
def cnt (S : M9) (t a : Nat) : (Nat → Int32) ⊕ (Nat → Int64) ⊕ (Nat → UInt32) ⊕ (Nat → UInt64) ⊕ (Nat → Option Nat) :=
  if t = 12 then .inr (.inr (.inr (.inr (gR S 12 a)))) else if t = 13 then .inr (.inl (gJ S a)) else if t = 14 then .inr (.inr (.inr (.inl (gD S a)))) else .inl (gI S t a)
def cellOf (cy : Nat → ClassId) (S : M9) (a : Nat) : va_E := if gK S a < 12 then .inr (gK S a, fl S (gK S a) a) else .inl (cy (ay (gK S a)), gN S a, cnt S (gK S a) a)
def pool (cy : Nat → ClassId) (S : M9) : va_W := va_pl (gL S) (cellOf cy S)
theorem fl_int {S : M9} {t a k : Nat} (h : (fk t)[k]? = some false) : (fl S t a)[k]? = some (.int (gI S t a k)) := by
  rw [fl, List.getElem?_mapIdx, h]; rfl
theorem fl_ref {S : M9} {t a k : Nat} (h : (fk t)[k]? = some true) : (fl S t a)[k]? = some (va_rf (gR S t a k)) := by
  rw [fl, List.getElem?_mapIdx, h]; rfl
theorem fl_len (S : M9) (t a : Nat) : (fl S t a).length = (fk t).length := by rw [fl, List.length_mapIdx]
theorem fl_sI {S : M9} {t a k : Nat} {v : Int32} (h : (fk t)[k]? = some false) : (fl S t a).set k (.int v) = fl (sI S t a k v) t a := by
  have hk : k < (fl S t a).length := by rw [fl_len]; exact (List.getElem?_eq_some_iff.mp h).1
  refine List.ext_getElem? fun j => ?_
  by_cases hj : k = j
  · subst hj
    rw [List.getElem?_set_self hk, fl_int h, gI_sI, if_pos ⟨rfl, rfl⟩, pk_us]
  · rw [List.getElem?_set_ne hj, fl, fl, List.getElem?_mapIdx, List.getElem?_mapIdx, gI_sI, if_pos ⟨rfl, rfl⟩, gR_sI]
    have : upd (gI S t a) k v j = gI S t a j := pk_un (fun q => hj q.symm)
    rw [this]
theorem fl_sR {S : M9} {t a k : Nat} {r : Option Nat} (h : (fk t)[k]? = some true) : (fl S t a).set k (va_rf r) = fl (sR S t a k r) t a := by
  have hk : k < (fl S t a).length := by rw [fl_len]; exact (List.getElem?_eq_some_iff.mp h).1
  refine List.ext_getElem? fun j => ?_
  by_cases hj : k = j
  · subst hj
    rw [List.getElem?_set_self hk, fl_ref h, gR_sR, if_pos ⟨rfl, rfl⟩, va_up_self]
  · rw [List.getElem?_set_ne hj, fl, fl, List.getElem?_mapIdx, List.getElem?_mapIdx, gR_sR, if_pos ⟨rfl, rfl⟩, gI_sR]
    have : va_up (gR S t a) k r j = gR S t a j := va_up_ne _ _ (fun q => hj q.symm)
    rw [this]
/-- S' is S but for what lies at a -/
def agr (S S' : M9) (a : Nat) : Prop := ∀ b, b ≠ a → gK S' b = gK S b ∧ gN S' b = gN S b ∧ (∀ t, gI S' t b = gI S t b) ∧ (∀ t, gR S' t b = gR S t b) ∧ gJ S' b = gJ S b ∧ gD S' b = gD S b
theorem cell_agr {cy : Nat → ClassId} {S S' : M9} {a b : Nat} (h : agr S S' a) (hb : b ≠ a) : cellOf cy S' b = cellOf cy S b := by
  obtain ⟨h1, h2, h3, h4, h5, h6⟩ := h b hb
  unfold cellOf fl cnt
  rw [h1, h2, h5, h6]
  simp only [h3, h4]
theorem agr_sI (S : M9) (t a k : Nat) (v : Int32) : agr S (sI S t a k v) a := fun b hb => ⟨rfl, rfl, fun t' => by rw [gI_sI, if_neg (fun q => hb q.2)], fun _ => rfl, rfl, rfl⟩
theorem agr_sW (S : M9) (t a : Nat) (f : Nat → Int32) : agr S (sW S t a f) a := fun b hb => ⟨rfl, rfl, fun t' => by rw [gI_sW, if_neg (fun q => hb q.2)], fun _ => rfl, rfl, rfl⟩
theorem agr_sR (S : M9) (t a k : Nat) (r : Option Nat) : agr S (sR S t a k r) a := fun b hb => ⟨rfl, rfl, fun _ => rfl, fun t' => by rw [gR_sR, if_neg (fun q => hb q.2)], rfl, rfl⟩
theorem agr_sJ (S : M9) (a k : Nat) (r : Int64) : agr S (sJ S a k r) a := fun b hb => ⟨rfl, rfl, fun _ => rfl, fun _ => rfl, by rw [gJ_sJ, if_neg hb], rfl⟩
theorem agr_sD (S : M9) (a k : Nat) (r : UInt64) : agr S (sD S a k r) a := fun b hb => ⟨rfl, rfl, fun _ => rfl, fun _ => rfl, rfl, by rw [gD_sD, if_neg hb]⟩
theorem agr_nW (S : M9) (t a n z : Nat) : agr S (nW S t a n z) a := fun b hb => ⟨by rw [gK_nW, if_neg hb], by rw [gN_nW, if_neg hb], fun t' => by rw [gI_nW, if_neg (fun q => hb q.2)], fun t' => by rw [gR_nW, if_neg (fun q => hb q.2)], by rw [gJ_nW, if_neg hb], by rw [gD_nW, if_neg hb]⟩
theorem pool_get {cy : Nat → ClassId} {S : M9} {a : Nat} (h : a ∈ gL S) : ∃ k : Nat, (pool cy S)[k]? = some (a, cellOf cy S a) := va_pl_get (X := []) h
theorem pool_set {A : Nat → Prop} {cy : Nat → ClassId} {S S' : M9} {a k : Nat} {e : va_E} (hD : va_D A (pool cy S)) (ha : a ∈ gL S) (hk : (pool cy S)[k]? = some (a, cellOf cy S a)) (hL : gL S' = gL S) (hg : agr S S' a) (he : e = cellOf cy S' a) : (pool cy S).set k (a, e) = pool cy S' := by
  have h1 := va_pl_set (X := []) (e := e) hD ha hk
  have h2 : (pool cy S).set k (a, e) = va_pl (gL S) (va_up (cellOf cy S) a e) := h1
  rw [h2, pool, hL]
  refine va_pl_congr fun b => ?_
  by_cases hb : b = a
  · subst hb; rw [va_up_self, he]
  · rw [va_up_ne _ _ hb, cell_agr hg hb]
theorem pool_new {cy : Nat → ClassId} {S S' : M9} {a : Nat} {e : va_E} (ha : a ∉ gL S) (hL : gL S' = gL S ++ [a]) (hg : agr S S' a) (he : e = cellOf cy S' a) : pool cy S ++ [(a, e)] = pool cy S' := by
  have h1 := va_pl_push (f := cellOf cy S) (e := e) ha
  have h2 : pool cy S ++ [(a, e)] = va_pl (gL S ++ [a]) (va_up (cellOf cy S) a e) := h1
  rw [h2, pool, hL]
  refine va_pl_congr fun b => ?_
  by_cases hb : b = a
  · subst hb; rw [va_up_self, he]
  · rw [va_up_ne _ _ hb, cell_agr hg hb]
theorem cell_obj {cy : Nat → ClassId} {S : M9} {a t : Nat} (h : gK S a = t) (ht : t < 12) : cellOf cy S a = .inr (t, fl S t a) := by subst h; rw [cellOf, if_pos ht]
theorem cell_arr {cy : Nat → ClassId} {S : M9} {a t : Nat} (h : gK S a = t) (ht : 12 ≤ t) : cellOf cy S a = .inl (cy (ay t), gN S a, cnt S t a) := by subst h; rw [cellOf, if_neg (by omega)]
theorem cnt_int {S : M9} {a t : Nat} (ht : 15 ≤ t) : cnt S t a = .inl (gI S t a) := by rw [cnt, if_neg (by omega), if_neg (by omega), if_neg (by omega)]
theorem ay_int {t : Nat} (ht : 17 ≤ t) : ay t = 5 := by rw [ay, if_neg (by omega), if_neg (by omega), if_neg (by omega), if_neg (by omega), if_neg (by omega)]
/-! LOCALS by place -/
def gl : List (Option Value) → Nat → Option Value
  | [], _ => none
  | v :: _, 0 => v
  | _ :: r, k + 1 => gl r k
def stl : List (Option Value) → Nat → Value → List (Option Value)
  | [], _, _ => []
  | _ :: r, 0, v => some v :: r
  | x :: r, k + 1, v => x :: stl r k v
theorem gl_stl : ∀ (ls : List (Option Value)) (k j : Nat) (v : Value), gl (stl ls k v) j = if j = k ∧ k < ls.length then some v else gl ls j := by
  intro ls
  induction ls with
  | nil => intro k j v; simp [stl, gl]
  | cons x r ih =>
    intro k j v
    cases k with
    | zero =>
      cases j with
      | zero => simp [stl, gl]
      | succ j => simp [stl, gl]
    | succ k =>
      cases j with
      | zero => simp [stl, gl]
      | succ j => simp [stl, gl, ih]
theorem stl_len : ∀ (ls : List (Option Value)) (k : Nat) (v : Value), (stl ls k v).length = ls.length := by
  intro ls
  induction ls with
  | nil => intro k v; rfl
  | cons x r ih =>
    intro k v
    cases k with
    | zero => rfl
    | succ k => simp [stl, ih]
/-- the machine's locals hold what is listed -/
def lh (arr : Array Slot) (nL : Nat) (ls : List (Option Value)) : Prop := arr.size = nL ∧ lv_wf arr ∧ ls.length = nL ∧ ∀ (i : Nat) (v : Value), gl ls i = some v → arr[i]? = some (.val v)
def lL (ls : List (Option Value)) : List (Nat × Value) := (List.range ls.length).filterMap (fun i => (gl ls i).map (fun v => (i, v)))
theorem gl_lt : ∀ (ls : List (Option Value)) (k : Nat) (v : Value), gl ls k = some v → k < ls.length := by
  intro ls
  induction ls with
  | nil => intro k v h; simp [gl] at h
  | cons x r ih =>
    intro k v h
    cases k with
    | zero => simp
    | succ k => have := ih k v h; simp; omega
theorem mem_lL {ls : List (Option Value)} {i : Nat} {v : Value} : (i, v) ∈ lL ls ↔ gl ls i = some v := by
  unfold lL
  rw [List.mem_filterMap]
  constructor
  · rintro ⟨j, -, h⟩
    cases hj : gl ls j with
    | none => rw [hj] at h; simp at h
    | some w => rw [hj] at h; simp at h; rw [← h.1, hj, h.2]
  · intro h
    exact ⟨i, List.mem_range.mpr (gl_lt _ _ _ h), by rw [h]; rfl⟩
theorem lh_has {arr : Array Slot} {nL : Nat} {ls : List (Option Value)} (h : lh arr nL ls) : lv_has arr nL (lL ls) := ⟨h.1, h.2.1, fun q hq => h.2.2.2 q.1 q.2 (mem_lL.mp hq)⟩
/-- before a place that is written there is no half of a long -/
def pre2 (ls : List (Option Value)) (k : Nat) : Prop := match k with
  | 0 => True
  | k + 1 => match gl ls k with
    | some (.long _) => False
    | some (.double _) => False
    | _ => True
theorem pre2_cat {ls : List (Option Value)} {k : Nat} (h : pre2 ls k) {j : Nat} {w : Value} (hj : gl ls j = some w) (e : j + 1 = k) : w.category = 1 := by
  subst e
  unfold pre2 at h
  dsimp only at h
  rw [hj] at h
  cases w <;> first | rfl | exact h.elim
theorem lh_store1 {arr' : Array Slot} {nL k : Nat} {ls : List (Option Value)} {v : Value} {arr : Array Slot} (h : lh arr nL ls) (hp : pre2 ls k) (hk : k < ls.length) (h' : lv_has arr' nL ((k, v) :: (lL ls).filter (fun q => !(q.1 == k) && !(q.1 + 1 == k && q.2.category == 2)))) : lh arr' nL (stl ls k v) := by
  refine ⟨h'.1, h'.2.1, by rw [stl_len]; exact h.2.2.1, fun i w hi => ?_⟩
  rw [gl_stl] at hi
  by_cases hik : i = k
  · subst hik
    rw [if_pos ⟨rfl, hk⟩] at hi
    cases hi
    exact h'.2.2 (i, v) List.mem_cons_self
  · rw [if_neg (fun q => hik q.1)] at hi
    refine h'.2.2 (i, w) (List.mem_cons_of_mem _ (List.mem_filter.mpr ⟨mem_lL.mpr hi, ?_⟩))
    by_cases e : i + 1 = k
    · have := pre2_cat hp hi e
      simp [hik, this]
    · simp [hik, e]
/-- a long or double is written at k and k + 1: what lay behind is forgotten -/
def stl2 : List (Option Value) → Nat → Value → List (Option Value)
  | [], _, _ => []
  | [_], _, _ => [none]
  | _ :: _ :: r, 0, v => some v :: none :: r
  | x :: y :: r, k + 1, v => x :: stl2 (y :: r) k v
theorem stl2_len : ∀ (ls : List (Option Value)) (k : Nat) (v : Value), (stl2 ls k v).length = ls.length := by
  intro ls
  induction ls with
  | nil => intro k v; rfl
  | cons x r ih =>
    intro k v
    cases r with
    | nil => rfl
    | cons y r =>
      cases k with
      | zero => rfl
      | succ k => simp only [stl2, List.length_cons, ih k v]
theorem gl_stl2 : ∀ (ls : List (Option Value)) (k j : Nat) (v w : Value), gl (stl2 ls k v) j = some w → (j = k ∧ w = v ∧ k + 1 < ls.length) ∨ (j ≠ k ∧ j ≠ k + 1 ∧ gl ls j = some w) := by
  intro ls
  induction ls with
  | nil => intro k j v w h; simp [stl2, gl] at h
  | cons x r ih =>
    intro k j v w h
    cases r with
    | nil => cases j <;> simp [stl2, gl] at h
    | cons y r =>
      cases k with
      | zero =>
        cases j with
        | zero => simp [stl2, gl] at h; left; simp [h]
        | succ j =>
          cases j with
          | zero => simp [stl2, gl] at h
          | succ j => right; simp [stl2, gl] at h ⊢; exact h
      | succ k =>
        cases j with
        | zero => right; simp [stl2, gl] at h ⊢; exact h
        | succ j =>
          have h2 : gl (stl2 (y :: r) k v) j = some w := h
          rcases ih k j v w h2 with ⟨a, b, c⟩ | ⟨a, b, c⟩
          · left; exact ⟨by omega, b, by simp only [List.length_cons] at c ⊢; omega⟩
          · right; exact ⟨by omega, by omega, c⟩
theorem lh_store2 {arr' : Array Slot} {nL k : Nat} {ls : List (Option Value)} {v : Value} {arr : Array Slot} (h : lh arr nL ls) (hp : pre2 ls k) (h' : lv_has arr' nL ((k, v) :: (lL ls).filter (fun q => !(q.1 == k) && (!(q.1 == k + 1) && !(q.1 + 1 == k && q.2.category == 2))))) : lh arr' nL (stl2 ls k v) := by
  refine ⟨h'.1, h'.2.1, by rw [stl2_len]; exact h.2.2.1, fun i w hi => ?_⟩
  rcases gl_stl2 ls k i v w hi with ⟨e, e2, -⟩ | ⟨e, e2, e3⟩
  · subst e; subst e2
    exact h'.2.2 (i, w) List.mem_cons_self
  · refine h'.2.2 (i, w) (List.mem_cons_of_mem _ (List.mem_filter.mpr ⟨mem_lL.mpr e3, ?_⟩))
    by_cases e4 : i + 1 = k
    · have := pre2_cat hp e3 e4
      simp [e, e2, this]
    · simp [e, e2, e4]
/-- the locals at a method's entry -/
def entL (As : List Value) (nL : Nat) : List (Option Value) := As.map some ++ List.replicate (nL - As.length) none
def cat1 (As : List Value) : Prop := ∀ v ∈ As, v.category = 1
theorem lv_args1 : ∀ (vs : List Value) (i : Nat), cat1 vs → ∀ (j : Nat) (v : Value), vs[j]? = some v → (i + j, v) ∈ lv_args i vs := by
  intro vs
  induction vs with
  | nil => intro i _ j v h; simp at h
  | cons x r ih =>
    intro i hc j v h
    have hx : x.category = 1 := hc x List.mem_cons_self
    rw [lv_args, if_neg (by omega)]
    cases j with
    | zero => simp at h; subst h; simp
    | succ j =>
      have h2 : r[j]? = some v := by simpa using h
      have := ih (i + 1) (fun v hv => hc v (List.mem_cons_of_mem _ hv)) j v h2
      rw [show i + (j + 1) = i + 1 + j by omega]
      exact List.mem_cons_of_mem _ this
theorem lg_sl1 : ∀ (vs : List Value), cat1 vs → (lg_sl vs).length = vs.length := by
  intro vs
  induction vs with
  | nil => intro _; rfl
  | cons x r ih =>
    intro hc
    have hx : x.category = 1 := hc x List.mem_cons_self
    have := ih (fun v hv => hc v (List.mem_cons_of_mem _ hv))
    unfold lg_sl at this ⊢
    rw [List.flatMap_cons, List.length_append, this, if_neg (by omega)]
    simp; omega
theorem gl_map (As : List Value) (n : Nat) : ∀ (i : Nat) (v : Value), gl (As.map some ++ List.replicate n none) i = some v → As[i]? = some v := by
  induction As with
  | nil =>
    induction n with
    | zero => intro i v h; simp [gl] at h
    | succ n ih =>
      intro i v h
      cases i with
      | zero => simp [List.replicate_succ, gl] at h
      | succ i => simp only [List.map_nil, List.nil_append, List.replicate_succ, gl] at h; have := ih i v (by simpa using h); simp at this
  | cons x r ih =>
    intro i v h
    cases i with
    | zero => simp [gl] at h; simp [h]
    | succ i => simp [gl] at h; simpa using ih i v (by simpa using h)
theorem lh_entry {As : List Value} {n : Nat} (hc : cat1 As) (hn : As.length ≤ n) : lh ((lg_sl As ++ List.replicate (n - (lg_sl As).length) Slot.unset).toArray) n (entL As n) := by
  have h := lv_entry As (n := n) (by rw [lg_sl1 As hc]; exact hn)
  refine ⟨h.1, h.2.1, ?_, fun i v hi => ?_⟩
  · rw [entL]; simp; omega
  · have h2 := gl_map As _ i v hi
    have h3 := lv_args1 As 0 hc i v h2
    exact h.2.2 (i, v) (by simpa using h3)
