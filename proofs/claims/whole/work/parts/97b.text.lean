/-! texts read from a list of tokens (what it is, a number's value, where it begins): by the class's functions, by the model's held signs; both the same -/
abbrev Tok : Type := Int × Int × Nat
abbrev RsT : Type := Bool × List Tok × List Int
def hdK : List Tok → Int
  | [] => 5
  | t :: _ => t.1
def hdV : List Tok → Int
  | [] => 0
  | t :: _ => t.2.1
def hdB : List Tok → Nat
  | [] => 0
  | t :: _ => t.2.2
def flR (r : List Tok) : RsT := (false, r, [])
def oneF (h : Bool) (one orr : List Tok → RsT) (r : List Tok) : RsT :=
  if -6 ≤ hdK r ∧ hdK r ≤ -1 then (true, r.tail, [hdK r])
  else if hdK r = 1 then (true, r.tail, [hdV r])
  else if h = false then flR r
  else if hdK r = -12 then ((one r.tail).1, (one r.tail).2.1, (one r.tail).2.2 ++ [-15])
  else if hdK r = 2 then (if (orr r.tail).1 = true ∧ hdK (orr r.tail).2.1 = 3 then (true, (orr r.tail).2.1.tail, (orr r.tail).2.2) else (false, (orr r.tail).2.1, (orr r.tail).2.2))
  else flR r
def chF (sub : List Tok → RsT) (ops : Int → Bool) : Nat → RsT → RsT
  | 0, q => q
  | n + 1, q => if q.1 = true ∧ ops (hdK q.2.1) = true then chF sub ops n ((sub q.2.1.tail).1, (sub q.2.1.tail).2.1, q.2.2 ++ (sub q.2.1.tail).2.2 ++ [hdK q.2.1]) else q
def isM (k : Int) : Bool := decide (k = -13)
def isP (k : Int) : Bool := decide (k = -11 ∨ k = -12)
def isC (k : Int) : Bool := decide (k = -9 ∨ k = -10)
def isA (k : Int) : Bool := decide (k = -8)
def isO (k : Int) : Bool := decide (k = -7)
def chn (sub : List Tok → RsT) (ops : Int → Bool) (r : List Tok) : RsT := chF sub ops r.length (sub r)
def cmpF (sub : List Tok → RsT) (r : List Tok) : RsT := chF sub isC 1 (sub r)
def notF (h : Bool) (nt cmp : List Tok → RsT) (r : List Tok) : RsT := if hdK r = -14 then (if h = false then flR r else ((nt r.tail).1, (nt r.tail).2.1, (nt r.tail).2.2 ++ [-14])) else cmp r
def lvF : Nat → (List Tok → RsT) × (List Tok → RsT)
  | 0 => (oneF false flR flR, notF false flR (cmpF (chn (chn (oneF false flR flR) isM) isP)))
  | n + 1 => (oneF true (lvF n).1 (chn (chn (lvF n).2 isA) isO), notF true (lvF n).2 (cmpF (chn (chn (oneF true (lvF n).1 (chn (chn (lvF n).2 isA) isO)) isM) isP)))
def oneL (n : Nat) : List Tok → RsT := (lvF n).1
def terL (n : Nat) : List Tok → RsT := chn (oneL n) isM
def sumL (n : Nat) : List Tok → RsT := chn (terL n) isP
def cmpL (n : Nat) : List Tok → RsT := cmpF (sumL n)
def notL (n : Nat) : List Tok → RsT := (lvF n).2
def andL (n : Nat) : List Tok → RsT := chn (notL n) isA
def orrL (n : Nat) : List Tok → RsT := chn (andL n) isO
theorem oneL_0 : oneL 0 = oneF false flR flR := rfl
theorem oneL_s (n : Nat) : oneL (n + 1) = oneF true (oneL n) (orrL n) := rfl
theorem notL_0 : notL 0 = notF false flR (cmpL 0) := rfl
theorem notL_s (n : Nat) : notL (n + 1) = notF true (notL n) (cmpL (n + 1)) := rfl
theorem hd_ne {r : List Tok} (h : ¬ hdK r = 5) : ∃ t r', r = t :: r' := by
  cases r with
  | nil => exact absurd rfl h
  | cons t r' => exact ⟨t, r', rfl⟩
/-! what is left is shorter; a token gives at most one sign -/
def ShF (f : List Tok → RsT) : Prop := ∀ r, (f r).2.1.length + (f r).2.2.length ≤ r.length ∧ ((f r).1 = true → (f r).2.1.length < r.length) ∧ ∀ t, t ∈ (f r).2.1 → t ∈ r
theorem Sh_fl : ShF flR := fun r => ⟨Nat.le_refl _, fun z => (by cases z), fun t z => z⟩
theorem tail_mem {t : Tok} {r : List Tok} (h : t ∈ r.tail) : t ∈ r := List.mem_of_mem_tail h
theorem Sh_one {h : Bool} {one orr : List Tok → RsT} (h1 : ShF one) (h2 : ShF orr) : ShF (oneF h one orr) := by
  intro r
  have nr : hdK r ≠ 5 → r.tail.length + 1 = r.length := fun z => by
    obtain ⟨t, r', e⟩ := hd_ne z
    rw [e]
    rfl
  obtain ⟨a1, a2, a3⟩ := h1 r.tail
  obtain ⟨b1, b2, b3⟩ := h2 r.tail
  unfold oneF
  by_cases c1 : -6 ≤ hdK r ∧ hdK r ≤ -1
  · rw [if_pos c1]
    have := nr (by omega)
    exact ⟨by show r.tail.length + 1 ≤ _; omega, fun _ => by show r.tail.length < _; omega, fun t z => tail_mem z⟩
  rw [if_neg c1]
  by_cases c2 : hdK r = 1
  · rw [if_pos c2]
    have := nr (by omega)
    exact ⟨by show r.tail.length + 1 ≤ _; omega, fun _ => by show r.tail.length < _; omega, fun t z => tail_mem z⟩
  rw [if_neg c2]
  by_cases c3 : h = false
  · rw [if_pos c3]
    exact Sh_fl r
  rw [if_neg c3]
  by_cases c4 : hdK r = -12
  · rw [if_pos c4]
    have := nr (by omega)
    refine ⟨?_, fun z => ?_, fun t z => tail_mem (a3 t z)⟩
    · show (one r.tail).2.1.length + ((one r.tail).2.2 ++ [-15]).length ≤ _
      rw [List.length_append, List.length_singleton]
      omega
    · have := a2 z
      show (one r.tail).2.1.length < _
      omega
  rw [if_neg c4]
  by_cases c5 : hdK r = 2
  · rw [if_pos c5]
    have := nr (by omega)
    by_cases c6 : (orr r.tail).1 = true ∧ hdK (orr r.tail).2.1 = 3
    · rw [if_pos c6]
      have k1 := b2 c6.1
      have k2 : (orr r.tail).2.1.tail.length ≤ (orr r.tail).2.1.length := by
        rw [List.length_tail]
        omega
      refine ⟨?_, fun z => ?_, fun t z => tail_mem (b3 t (tail_mem z))⟩
      · show (orr r.tail).2.1.tail.length + (orr r.tail).2.2.length ≤ _
        omega
      · show (orr r.tail).2.1.tail.length < _
        omega
    · rw [if_neg c6]
      refine ⟨?_, fun z => (by cases z), fun t z => tail_mem (b3 t z)⟩
      show (orr r.tail).2.1.length + (orr r.tail).2.2.length ≤ _
      omega
  rw [if_neg c5]
  exact Sh_fl r
theorem Sh_ch {sub : List Tok → RsT} {ops : Int → Bool} (h1 : ShF sub) (o5 : ops 5 = false) : ∀ (n N : Nat) (r : List Tok) (q : RsT), q.2.1.length + q.2.2.length ≤ N → (q.1 = true → q.2.1.length < N) → (∀ t, t ∈ q.2.1 → t ∈ r) → (chF sub ops n q).2.1.length + (chF sub ops n q).2.2.length ≤ N ∧ ((chF sub ops n q).1 = true → (chF sub ops n q).2.1.length < N) ∧ ∀ t, t ∈ (chF sub ops n q).2.1 → t ∈ r := by
  intro n N r
  induction n with
  | zero => intro q k1 k2 k3; exact ⟨k1, k2, k3⟩
  | succ n ih =>
    intro q k1 k2 k3
    unfold chF
    by_cases c : q.1 = true ∧ ops (hdK q.2.1) = true
    · rw [if_pos c]
      have nr : q.2.1.tail.length + 1 = q.2.1.length := by
        obtain ⟨t, r', e⟩ := hd_ne (r := q.2.1) (fun z => by rw [z, o5] at c; cases c.2)
        rw [e]
        rfl
      obtain ⟨a1, a2, a3⟩ := h1 q.2.1.tail
      refine ih _ ?_ (fun z => ?_) (fun t z => k3 t (tail_mem (a3 t z)))
      · show (sub q.2.1.tail).2.1.length + (q.2.2 ++ (sub q.2.1.tail).2.2 ++ [hdK q.2.1]).length ≤ _
        rw [List.length_append, List.length_append, List.length_singleton]
        show (sub q.2.1.tail).2.1.length + _ ≤ _
        omega
      · have := a2 z
        show (sub q.2.1.tail).2.1.length < _
        omega
    · rw [if_neg c]
      exact ⟨k1, k2, k3⟩
theorem Sh_chn {sub : List Tok → RsT} {ops : Int → Bool} (h1 : ShF sub) (o5 : ops 5 = false) : ShF (chn sub ops) := fun r => Sh_ch h1 o5 _ _ _ _ (h1 r).1 (h1 r).2.1 (h1 r).2.2
theorem Sh_cmp {sub : List Tok → RsT} (h1 : ShF sub) : ShF (cmpF sub) := fun r => Sh_ch h1 rfl _ _ _ _ (h1 r).1 (h1 r).2.1 (h1 r).2.2
theorem Sh_not {h : Bool} {nt cmp : List Tok → RsT} (h1 : ShF nt) (h2 : ShF cmp) : ShF (notF h nt cmp) := by
  intro r
  unfold notF
  by_cases c1 : hdK r = -14
  · rw [if_pos c1]
    by_cases c3 : h = false
    · rw [if_pos c3]
      exact Sh_fl r
    rw [if_neg c3]
    obtain ⟨t, r', e⟩ := hd_ne (r := r) (by omega)
    subst e
    obtain ⟨a1, a2, a3⟩ := h1 r'
    refine ⟨?_, fun z => ?_, fun t z => List.mem_cons_of_mem _ (a3 t z)⟩
    · show (nt r').2.1.length + ((nt r').2.2 ++ [-14]).length ≤ r'.length + 1
      rw [List.length_append, List.length_singleton]
      omega
    · have := a2 z
      show (nt r').2.1.length < r'.length + 1
      omega
  · rw [if_neg c1]
    exact h2 r
theorem Sh_lv : ∀ n, ShF (oneL n) ∧ ShF (notL n) := by
  intro n
  induction n with
  | zero =>
    have h1 : ShF (oneL 0) := Sh_one Sh_fl Sh_fl
    exact ⟨h1, Sh_not Sh_fl (Sh_cmp (Sh_chn (Sh_chn h1 rfl) rfl))⟩
  | succ n ih =>
    have h1 : ShF (oneL (n + 1)) := Sh_one ih.1 (Sh_chn (Sh_chn ih.2 rfl) rfl)
    exact ⟨h1, Sh_not ih.2 (Sh_cmp (Sh_chn (Sh_chn h1 rfl) rfl))⟩
theorem Sh_ter (n : Nat) : ShF (terL n) := Sh_chn (Sh_lv n).1 rfl
theorem Sh_sum (n : Nat) : ShF (sumL n) := Sh_chn (Sh_ter n) rfl
theorem Sh_cmpL (n : Nat) : ShF (cmpL n) := Sh_cmp (Sh_sum n)
theorem Sh_and (n : Nat) : ShF (andL n) := Sh_chn (Sh_lv n).2 rfl
theorem Sh_orr (n : Nat) : ShF (orrL n) := Sh_chn (Sh_and n) rfl
/-! what is made can be reckoned -/
def OkE (D : Nat) (E : List Int) : Prop := ∀ rest k, k + D ≤ 64 → okP rest (k + 1) → okP (E ++ rest) k
def okT (r : List Tok) : Prop := ∀ t, t ∈ r → t.1 = 1 → 0 ≤ t.2.1 ∧ t.2.1 ≤ 9999
def OkF (D : Nat) (f : List Tok → RsT) : Prop := ∀ r, okT r → (f r).1 = true → OkE D (f r).2.2
theorem okT_tail {r : List Tok} (h : okT r) : okT r.tail := fun t z => h t (tail_mem z)
theorem OkE_le {D D' : Nat} {E : List Int} (h : OkE D E) (hd : D ≤ D') : OkE D' E := fun rest k k1 k2 => h rest k (by omega) k2
theorem OkF_le {D D' : Nat} {f : List Tok → RsT} (h : OkF D f) (hd : D ≤ D') : OkF D' f := fun r k1 k2 => OkE_le (h r k1 k2) hd
theorem OkF_fl (D : Nat) : OkF D flR := fun r _ z => by cases z
theorem OkE_1 {z : Int} (h1 : -6 ≤ z) (h2 : z ≤ 9999) : OkE 1 [z] := by
  intro rest k k1 k2
  show -15 ≤ z ∧ z ≤ 9999 ∧ (if -6 ≤ z then k < 64 ∧ okP rest (k + 1) else _)
  rw [if_pos h1]
  exact ⟨by omega, h2, by omega, k2⟩
theorem OkE_u {D : Nat} {E : List Int} {z : Int} (hz : z = -14 ∨ z = -15) (h : OkE D E) : OkE D (E ++ [z]) := by
  intro rest k k1 k2
  rw [List.append_assoc]
  refine h _ k k1 ?_
  show -15 ≤ z ∧ z ≤ 9999 ∧ (if -6 ≤ z then _ else if z = -14 ∨ z = -15 then 1 ≤ k + 1 ∧ okP rest (k + 1) else _)
  rw [if_neg (by omega), if_pos hz]
  exact ⟨by omega, by omega, by omega, k2⟩
theorem OkE_b {D : Nat} {E F : List Int} {z : Int} (h1 : -13 ≤ z) (h2 : z ≤ -7) (hE : OkE (D + 1) E) (hF : OkE D F) : OkE (D + 1) (E ++ F ++ [z]) := by
  intro rest k k1 k2
  rw [List.append_assoc, List.append_assoc]
  refine hE _ k k1 ?_
  refine hF _ (k + 1) (by omega) ?_
  show -15 ≤ z ∧ z ≤ 9999 ∧ (if -6 ≤ z then _ else if z = -14 ∨ z = -15 then _ else 2 ≤ k + 1 + 1 ∧ okP rest (k + 1 + 1 - 1))
  rw [if_neg (by omega), if_neg (by omega)]
  exact ⟨by omega, by omega, by omega, k2⟩
theorem Ok_one {D : Nat} {h : Bool} {one orr : List Tok → RsT} (hD : 1 ≤ D) (h1 : OkF D one) (h2 : OkF D orr) : OkF D (oneF h one orr) := by
  intro r hr hk
  unfold oneF at hk ⊢
  by_cases c1 : -6 ≤ hdK r ∧ hdK r ≤ -1
  · rw [if_pos c1]
    exact OkE_le (OkE_1 c1.1 (by omega)) hD
  rw [if_neg c1] at hk ⊢
  by_cases c2 : hdK r = 1
  · rw [if_pos c2]
    obtain ⟨t, r', e⟩ := hd_ne (r := r) (by omega)
    subst e
    have := hr t List.mem_cons_self c2
    exact OkE_le (OkE_1 (by show -6 ≤ t.2.1; omega) (by show t.2.1 ≤ 9999; omega)) hD
  rw [if_neg c2] at hk ⊢
  by_cases c3 : h = false
  · rw [if_pos c3] at hk
    cases hk
  rw [if_neg c3] at hk ⊢
  by_cases c4 : hdK r = -12
  · rw [if_pos c4] at hk ⊢
    exact OkE_u (Or.inr rfl) (h1 _ (okT_tail hr) hk)
  rw [if_neg c4] at hk ⊢
  by_cases c5 : hdK r = 2
  · rw [if_pos c5] at hk ⊢
    by_cases c6 : (orr r.tail).1 = true ∧ hdK (orr r.tail).2.1 = 3
    · rw [if_pos c6]
      exact h2 _ (okT_tail hr) c6.1
    · rw [if_neg c6] at hk
      cases hk
  rw [if_neg c5] at hk
  cases hk
theorem Ok_ch {D : Nat} {sub : List Tok → RsT} {ops : Int → Bool} (h1 : OkF D sub) (sh : ShF sub) (ho : ∀ z, ops z = true → -13 ≤ z ∧ z ≤ -7) : ∀ (n : Nat) (q : RsT), okT q.2.1 → (q.1 = true → OkE (D + 1) q.2.2) → (chF sub ops n q).1 = true → OkE (D + 1) (chF sub ops n q).2.2 := by
  intro n
  induction n with
  | zero => intro q k1 k2 k3; exact k2 k3
  | succ n ih =>
    intro q k1 k2 k3
    unfold chF at k3 ⊢
    by_cases c : q.1 = true ∧ ops (hdK q.2.1) = true
    · rw [if_pos c] at k3 ⊢
      have hz := ho _ c.2
      exact ih _ (fun t z => k1 t (tail_mem ((sh _).2.2 t z))) (fun z => OkE_b hz.1 hz.2 (k2 c.1) (h1 _ (okT_tail k1) z)) k3
    · rw [if_neg c] at k3 ⊢
      exact k2 k3
theorem Ok_chn {D : Nat} {sub : List Tok → RsT} {ops : Int → Bool} (h1 : OkF D sub) (sh : ShF sub) (ho : ∀ z, ops z = true → -13 ≤ z ∧ z ≤ -7) : OkF (D + 1) (chn sub ops) := fun r hr hk => Ok_ch h1 sh ho _ _ (fun t z => hr t ((sh r).2.2 t z)) (fun z => OkE_le (h1 r hr z) (Nat.le_succ D)) hk
theorem Ok_cmp {D : Nat} {sub : List Tok → RsT} (h1 : OkF D sub) (sh : ShF sub) : OkF (D + 1) (cmpF sub) := fun r hr hk => Ok_ch h1 sh (fun z hz => by have := of_decide_eq_true hz; omega) _ _ (fun t z => hr t ((sh r).2.2 t z)) (fun z => OkE_le (h1 r hr z) (Nat.le_succ D)) hk
theorem Ok_not {D : Nat} {h : Bool} {nt cmp : List Tok → RsT} (h1 : OkF D nt) (h2 : OkF D cmp) : OkF D (notF h nt cmp) := by
  intro r hr hk
  unfold notF at hk ⊢
  by_cases c1 : hdK r = -14
  · rw [if_pos c1] at hk ⊢
    by_cases c3 : h = false
    · rw [if_pos c3] at hk
      cases hk
    rw [if_neg c3] at hk ⊢
    exact OkE_u (Or.inl rfl) (h1 _ (okT_tail hr) hk)
  · rw [if_neg c1] at hk ⊢
    exact h2 r hr hk
theorem ho_M (z : Int) (h : isM z = true) : -13 ≤ z ∧ z ≤ -7 := by have := of_decide_eq_true h; omega
theorem ho_P (z : Int) (h : isP z = true) : -13 ≤ z ∧ z ≤ -7 := by have := of_decide_eq_true h; omega
theorem ho_A (z : Int) (h : isA z = true) : -13 ≤ z ∧ z ≤ -7 := by have := of_decide_eq_true h; omega
theorem ho_O (z : Int) (h : isO z = true) : -13 ≤ z ∧ z ≤ -7 := by have := of_decide_eq_true h; omega
theorem Ok_lv : ∀ n, OkF (1 + 5 * n) (oneL n) ∧ OkF (4 + 5 * n) (notL n) := by
  intro n
  have up : ∀ n, OkF (1 + 5 * n) (oneL n) → OkF (4 + 5 * n) (cmpL n) := fun n h => OkF_le (Ok_cmp (Ok_chn (Ok_chn h (Sh_lv n).1 ho_M) (Sh_ter n) ho_P) (Sh_sum n)) (by omega)
  induction n with
  | zero =>
    have h1 : OkF 1 (oneL 0) := Ok_one (Nat.le_refl 1) (OkF_fl 1) (OkF_fl 1)
    exact ⟨h1, Ok_not (OkF_fl _) (up 0 h1)⟩
  | succ n ih =>
    have h1 : OkF (1 + 5 * (n + 1)) (oneL (n + 1)) := Ok_one (by omega) (OkF_le ih.1 (by omega)) (OkF_le (Ok_chn (Ok_chn ih.2 (Sh_lv n).2 ho_A) (Sh_and n) ho_O) (by omega))
    exact ⟨h1, Ok_not (OkF_le ih.2 (by omega)) (up (n + 1) h1)⟩
theorem Ok_orr : OkF 31 (orrL 5) := OkF_le (Ok_chn (Ok_chn (Ok_lv 5).2 (Sh_lv 5).2 ho_A) (Sh_and 5) ho_O) (by omega)
theorem Ok_or {r : List Tok} (h : okT r) (hk : (orrL 5 r).1 = true) : okP (orrL 5 r).2.2 0 := by
  have := Ok_orr r h hk [] 0 (by omega) rfl
  rw [List.append_nil] at this
  exact this
