/-! THE ABSTRACT MACHINE: cells are numbered 0, 1, .. in the order of their making; an object's or array's ints are mI, its references mP; strings, the script and the like have numbers from 1000000 on -/
abbrev ai_S : Type := Nat × Nat
abbrev ai_H : Type := (Nat → Nat → Int32) × (Nat → Nat → Option Nat) × (Nat → ai_S) × Nat
def mI (w : ai_H) (i k : Nat) : Int32 := w.1 i k
def mP (w : ai_H) (i k : Nat) : Option Nat := w.2.1 i k
def mN (w : ai_H) : Nat := w.2.2.2
def mS (w : ai_H) (i : Nat) : ai_S := if i < w.2.2.2 then w.2.2.1 i else (0, 0)
def msI (w : ai_H) (i k : Nat) (x : Int32) : ai_H := (fun i' k' => if i' = i ∧ k' = k then x else w.1 i' k', w.2)
def msP (w : ai_H) (i k : Nat) (x : Option Nat) : ai_H := (w.1, fun i' k' => if i' = i ∧ k' = k then x else w.2.1 i' k', w.2.2)
def msA (w : ai_H) (i : Nat) (f : Nat → Int32) : ai_H := (fun i' k' => if i' = i then f k' else w.1 i' k', w.2)
def mnew (w : ai_H) (t : ai_S) : ai_H := (fun i k => if i = w.2.2.2 then 0 else w.1 i k, fun i k => if i = w.2.2.2 then none else w.2.1 i k, fun i => if i = w.2.2.2 then t else w.2.2.1 i, w.2.2.2 + 1)
theorem mI_msI (w : ai_H) (i k i' k' : Nat) (x : Int32) : mI (msI w i k x) i' k' = if i' = i ∧ k' = k then x else mI w i' k' := rfl
theorem mI_msP (w : ai_H) (i k i' k' : Nat) (x : Option Nat) : mI (msP w i k x) i' k' = mI w i' k' := rfl
theorem mP_msI (w : ai_H) (i k i' k' : Nat) (x : Int32) : mP (msI w i k x) i' k' = mP w i' k' := rfl
theorem mP_msP (w : ai_H) (i k i' k' : Nat) (x : Option Nat) : mP (msP w i k x) i' k' = if i' = i ∧ k' = k then x else mP w i' k' := rfl
theorem mS_msI (w : ai_H) (i k i' : Nat) (x : Int32) : mS (msI w i k x) i' = mS w i' := rfl
theorem mS_msP (w : ai_H) (i k i' : Nat) (x : Option Nat) : mS (msP w i k x) i' = mS w i' := rfl
theorem mN_msI (w : ai_H) (i k : Nat) (x : Int32) : mN (msI w i k x) = mN w := rfl
theorem mN_msP (w : ai_H) (i k : Nat) (x : Option Nat) : mN (msP w i k x) = mN w := rfl
theorem mI_msA (w : ai_H) (i i' k' : Nat) (f : Nat → Int32) : mI (msA w i f) i' k' = if i' = i then f k' else mI w i' k' := rfl
theorem mP_msA (w : ai_H) (i i' k' : Nat) (f : Nat → Int32) : mP (msA w i f) i' k' = mP w i' k' := rfl
theorem mS_msA (w : ai_H) (i i' : Nat) (f : Nat → Int32) : mS (msA w i f) i' = mS w i' := rfl
theorem mN_msA (w : ai_H) (i : Nat) (f : Nat → Int32) : mN (msA w i f) = mN w := rfl
theorem mI_mnew (w : ai_H) (t : ai_S) (i k : Nat) : mI (mnew w t) i k = if i = mN w then 0 else mI w i k := rfl
theorem mP_mnew (w : ai_H) (t : ai_S) (i k : Nat) : mP (mnew w t) i k = if i = mN w then none else mP w i k := rfl
theorem mN_mnew (w : ai_H) (t : ai_S) : mN (mnew w t) = mN w + 1 := rfl
theorem mS_mnew (w : ai_H) (t : ai_S) (i : Nat) : mS (mnew w t) i = if i = mN w then t else mS w i := by
  unfold mS mnew mN
  dsimp only
  by_cases h : i = w.2.2.2
  · subst h; simp
  · by_cases h2 : i < w.2.2.2
    · have h3 : i < w.2.2.2 + 1 := by omega
      simp [h, h2, h3]
    · have h3 : ¬ i < w.2.2.2 + 1 := by omega
      simp [h, h2, h3]
theorem mS_lt {w : ai_H} {i : Nat} {t : ai_S} (h : mS w i = t) (ht : t.1 ≠ 0) : i < mN w := by
  unfold mS at h
  unfold mN
  by_cases h2 : i < w.2.2.2
  · exact h2
  · rw [if_neg h2] at h
    subst h
    exact absurd rfl ht

/-- a method: name, code, maxLocals, what it returns; the number of its class's name, how many cells and slots it may make -/
abbrev ai_M : Type := (MethodName × ByteArray × Nat × Option FieldType) × (Nat × Nat × Nat)
abbrev ai_C : Type := Nat × List (Option Value) × List Value × (Nat × Nat) × ai_H
/-- what a call finds: (kind, the receiver's class, the number of arguments), the method. kinds: 0 virtual, 1 static, 2 special, 3 virtual of a String; 10 more: a nest mate's -/
abbrev ai_K : Type := (Nat × Nat × Nat) × ai_M
abbrev ai_R : Type := ai_C ⊕ (Option Value) ⊕ (ai_M × List Value × List Value)
def ai_rf (x : Option Nat) : Value := match x with
  | none => .null
  | some a => .ref a
def ai_kl (x : Option Value) : Option Value := match x with
  | some (.long _) => none
  | some (.double _) => none
  | y => y
/-- a store into the locals: what stands ahead of it, if it is a long, is no more -/
def ai_st1 (L : List (Option Value)) (i : Nat) (v : Value) : List (Option Value) := match L, i with
  | [], _ => []
  | _ :: t, 0 => some v :: t
  | a :: _ :: t, 1 => ai_kl a :: some v :: t
  | [a], 1 => [ai_kl a]
  | a :: t, j + 1 => a :: ai_st1 t j v
def ai_st2 (L : List (Option Value)) (i : Nat) (v : Value) : List (Option Value) := match L, i with
  | [], _ => []
  | _ :: _ :: t, 0 => some v :: none :: t
  | [_], 0 => [none]
  | a :: _ :: _ :: t, 1 => ai_kl a :: some v :: none :: t
  | [a, _], 1 => [ai_kl a, none]
  | [a], 1 => [ai_kl a]
  | a :: t, j + 1 => a :: ai_st2 t j v
def ai_args : List Value → List (Option Value)
  | [] => []
  | v :: t => some v :: (if v.category = 2 then none :: ai_args t else ai_args t)
def ai_entry (vs : List Value) (n : Nat) : List (Option Value) := ai_args vs ++ List.replicate (n - (ai_args vs).length) none
def ai_rem (x y : Int32) : Int32 := x - x / y * y
def ai_reml (x y : Int64) : Int64 := x - x / y * y
def ai_ushr (x y : Int32) : Int32 := (x.toUInt32 >>> (y.toUInt32 &&& Int32.toUInt32 31)).toInt32
def ai_shl (x y : Int32) : Int32 := x <<< (y &&& 31)
def ai_shr (x y : Int32) : Int32 := x >>> (y &&& 31)
def ai_i2c (x : Int32) : Int32 := (x.toUInt32 % 65536).toInt32
def ai_i2b (x : Int32) : Int32 := x.toInt8.toInt32
def ai_i2s (x : Int32) : Int32 := x.toInt16.toInt32
def ai_cmp (x y : Int64) : Int32 := lg_cmp x y
def ai_go (pc : Nat) (L : List (Option Value)) (st : List Value) (k : Nat × Nat) (w : ai_H) : Option ai_C := some (pc, L, st, k, w)
def ai_tg (pc : Nat) (off : Int) : Nat := ((pc : Int) + off).toNat
def ai_br (b : Bool) (pc : Nat) (off : Int) (L : List (Option Value)) (st : List Value) (k : Nat × Nat) (w : ai_H) : Option ai_C :=
  if 0 ≤ (pc : Int) + off then (if b then ai_go (ai_tg pc off) L st k w else ai_go (pc + 3) L st k w) else none
def ai_cond (cd : ClassFile.Cond) (x y : Int32) : Bool := match cd with
  | .eq => decide (x = y)
  | .ne => !decide (x = y)
  | .lt => decide (x < y)
  | .ge => decide (y ≤ x)
  | .gt => decide (y < x)
  | .le => decide (x ≤ y)
/-- the tables: by (number of the class, index in its pool) -/
def ai_look {α : Type} (t : List ((Nat × Nat) × α)) (a b : Nat) : Option α := match t with
  | [] => none
  | (q, v) :: t => if q.1 = a ∧ q.2 = b then some v else ai_look t a b
theorem ai_look_mem {α : Type} : ∀ (t : List ((Nat × Nat) × α)) (a b : Nat) (v : α), ai_look t a b = some v → ((a, b), v) ∈ t
  | [], _, _, _, h => by simp [ai_look] at h
  | (q, u) :: t, a, b, v, h => by
    unfold ai_look at h
    by_cases hq : q.1 = a ∧ q.2 = b
    · rw [if_pos hq] at h
      cases h
      obtain ⟨rfl, rfl⟩ := hq
      exact List.mem_cons_self
    · rw [if_neg hq] at h
      exact List.mem_cons_of_mem _ (ai_look_mem t a b v h)
