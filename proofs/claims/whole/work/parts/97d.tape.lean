/-! the tokens of a tape -/
def isBl (c : Int) : Bool := decide (c = 32 ∨ c = 10)
def isLe (c : Int) : Bool := decide (97 ≤ c ∧ c ≤ 122)
def isDi (c : Int) : Bool := decide (48 ≤ c ∧ c ≤ 57)
def rnP (P : Int → Bool) (tp : Nat → Int) : Nat → Nat → Nat
  | 0, p => p
  | n + 1, p => if P (tp p) = true then rnP P tp n (p + 1) else p
theorem rnP_b (P : Int → Bool) (tp : Nat → Int) : ∀ n p, p ≤ rnP P tp n p ∧ rnP P tp n p ≤ p + n := by
  intro n
  induction n with
  | zero => intro p; exact ⟨Nat.le_refl _, Nat.le_refl _⟩
  | succ n ih =>
    intro p
    unfold rnP
    have := ih (p + 1)
    split
    · omega
    · omega
theorem rnP_in (P : Int → Bool) (tp : Nat → Int) : ∀ n p i, p ≤ i → i < rnP P tp n p → P (tp i) = true := by
  intro n
  induction n with
  | zero => intro p i h1 h2; exact absurd h2 (Nat.not_lt.mpr h1)
  | succ n ih =>
    intro p i h1 h2
    unfold rnP at h2
    by_cases c : P (tp p) = true
    · rw [if_pos c] at h2
      by_cases e : i = p
      · rw [e]; exact c
      · exact ih (p + 1) i (by omega) h2
    · rw [if_neg c] at h2
      omega
theorem rnP_pos (P : Int → Bool) (tp : Nat → Int) {n p : Nat} (hn : 0 < n) (c : P (tp p) = true) : p < rnP P tp n p := by
  obtain ⟨m, rfl⟩ : ∃ m, n = m + 1 := ⟨n - 1, by omega⟩
  unfold rnP
  rw [if_pos c]
  have := rnP_b P tp m (p + 1)
  omega
def slF (tp : Nat → Int) : Nat → Nat → List Int
  | 0, _ => []
  | n + 1, b => tp b :: slF tp n (b + 1)
theorem slF_len (tp : Nat → Int) : ∀ n b, (slF tp n b).length = n := by
  intro n
  induction n with
  | zero => intro b; rfl
  | succ n ih => intro b; show (slF tp n (b + 1)).length + 1 = n + 1; rw [ih]
/-- the words, as the class asks for them -/
def wdL (k : Nat) : List Int := ([[114, 101, 97, 115, 111, 110], [115, 116, 101, 112], [115, 116, 111, 110, 101], [109, 111, 114, 101], [102, 97, 114], [116, 117, 114, 110], [111, 114], [97, 110, 100], [110, 111, 116], [97, 108, 108, 111, 119, 115], [119, 111, 114, 116, 104], [112, 114, 105, 99, 101]] : List (List Int)).getD k []
def wdC (l : List Int) : Int := if l = wdL 0 then -1 else if l = wdL 1 then -2 else if l = wdL 2 then -3 else if l = wdL 3 then -4 else if l = wdL 4 then -5 else if l = wdL 5 then -6 else if l = wdL 6 then -7 else if l = wdL 7 then -8 else if l = wdL 8 then -14 else if l = wdL 9 then 10 else if l = wdL 10 then 11 else if l = wdL 11 then 12 else 6
def sgC (c : Int) : Int := if c = 40 then 2 else if c = 41 then 3 else if c = 59 then 4 else if c = 43 then -11 else if c = 45 then -12 else if c = 42 then -13 else if c = 60 then -9 else if c = 61 then -10 else 6
def nvF (tp : Nat → Int) (b : Nat) : Nat → Int
  | 0 => 0
  | j + 1 => nvF tp b j * 10 + tp (b + j) - 48
def tkL (tn : Nat) (tp : Nat → Int) (b : Nat) : Nat := if tn ≤ b then b else if isLe (tp b) = true then rnP isLe tp (tn - b) b else if isDi (tp b) = true then rnP isDi tp (tn - b) b else b + 1
def tkK (tn : Nat) (tp : Nat → Int) (b : Nat) : Int := if tn ≤ b then 5 else if isLe (tp b) = true then wdC (slF tp (tkL tn tp b - b) b) else if isDi (tp b) = true then (if 4 < tkL tn tp b - b then 6 else 1) else sgC (tp b)
def tkV (tn : Nat) (tp : Nat → Int) (b : Nat) : Int := nvF tp b (tkL tn tp b - b)
/-- where the token behind e begins -/
def tkN (tn : Nat) (tp : Nat → Int) (e : Nat) : Nat := rnP isBl tp (tn - e) e
def strF (tn : Nat) (tp : Nat → Int) : Nat → Nat → List Tok
  | 0, _ => []
  | n + 1, b => (tkK tn tp b, tkV tn tp b, b) :: (if tn ≤ b then [] else strF tn tp n (tkN tn tp (tkL tn tp b)))
def toks (tn : Nat) (tp : Nat → Int) (b : Nat) : List Tok := strF tn tp (tn + 1 - b) b
theorem wdC_b (l : List Int) : ((-8 ≤ wdC l ∧ wdC l ≤ -1) ∨ wdC l = -14 ∨ wdC l = 6 ∨ (10 ≤ wdC l ∧ wdC l ≤ 12)) := by
  unfold wdC
  repeat' split
  all_goals omega
theorem sgC_b (c : Int) : ((-13 ≤ sgC c ∧ sgC c ≤ -9) ∨ sgC c = 6 ∨ (2 ≤ sgC c ∧ sgC c ≤ 4)) := by
  unfold sgC
  repeat' split
  all_goals omega
theorem tkK_b (tn : Nat) (tp : Nat → Int) (b : Nat) : -14 ≤ tkK tn tp b ∧ tkK tn tp b ≤ 12 := by
  unfold tkK
  have h1 := wdC_b (slF tp (tkL tn tp b - b) b)
  have h2 := sgC_b (tp b)
  repeat' split
  all_goals omega
theorem tkK_5 {tn : Nat} {tp : Nat → Int} {b : Nat} : tkK tn tp b = 5 ↔ tn ≤ b := by
  unfold tkK
  have h1 := wdC_b (slF tp (tkL tn tp b - b) b)
  have h2 := sgC_b (tp b)
  by_cases c1 : tn ≤ b
  · rw [if_pos c1]
    simp only [c1]
  · rw [if_neg c1]
    simp only [c1, iff_false]
    repeat' split
    all_goals omega
theorem tkL_b {tn : Nat} {tp : Nat → Int} {b : Nat} (h : b ≤ tn) : b ≤ tkL tn tp b ∧ tkL tn tp b ≤ tn ∧ (b < tn → b < tkL tn tp b) := by
  unfold tkL
  by_cases c1 : tn ≤ b
  · rw [if_pos c1]
    omega
  rw [if_neg c1]
  by_cases c2 : isLe (tp b) = true
  · rw [if_pos c2]
    have h1 := rnP_b isLe tp (tn - b) b
    have h2 := rnP_pos isLe tp (n := tn - b) (p := b) (by omega) c2
    omega
  rw [if_neg c2]
  by_cases c3 : isDi (tp b) = true
  · rw [if_pos c3]
    have h1 := rnP_b isDi tp (tn - b) b
    have h2 := rnP_pos isDi tp (n := tn - b) (p := b) (by omega) c3
    omega
  rw [if_neg c3]
  omega
theorem tkN_b {tn : Nat} {tp : Nat → Int} {e : Nat} (h : e ≤ tn) : e ≤ tkN tn tp e ∧ tkN tn tp e ≤ tn := by
  have h1 := rnP_b isBl tp (tn - e) e
  unfold tkN
  omega
theorem strF_fuel (tn : Nat) (tp : Nat → Int) : ∀ n n' b, b ≤ tn → tn + 1 - b ≤ n → tn + 1 - b ≤ n' → strF tn tp n b = strF tn tp n' b := by
  intro n
  induction n with
  | zero => intro n' b h1 h2 h3; omega
  | succ n ih =>
    intro n' b h1 h2 h3
    obtain ⟨m, rfl⟩ : ∃ m, n' = m + 1 := ⟨n' - 1, by omega⟩
    unfold strF
    by_cases c : tn ≤ b
    · rw [if_pos c, if_pos c]
    · rw [if_neg c, if_neg c]
      have h4 := tkL_b (tp := tp) h1
      have h5 := tkN_b (tp := tp) h4.2.1
      rw [ih m _ h5.2 (by omega) (by omega)]
theorem toks_eq {tn : Nat} {tp : Nat → Int} {b : Nat} (h : b ≤ tn) : toks tn tp b = (tkK tn tp b, tkV tn tp b, b) :: (if tn ≤ b then [] else toks tn tp (tkN tn tp (tkL tn tp b))) := by
  obtain ⟨m, hm⟩ : ∃ m, tn + 1 - b = m + 1 := ⟨tn - b, by omega⟩
  unfold toks
  rw [hm]
  show (tkK tn tp b, tkV tn tp b, b) :: (if tn ≤ b then [] else strF tn tp m (tkN tn tp (tkL tn tp b))) = _
  by_cases c : tn ≤ b
  · rw [if_pos c, if_pos c]
  · rw [if_neg c, if_neg c]
    have h4 := tkL_b (tp := tp) h
    have h5 := tkN_b (tp := tp) h4.2.1
    rw [strF_fuel tn tp m _ _ h5.2 (by omega) (Nat.le_refl _)]
theorem toks_hd {tn : Nat} {tp : Nat → Int} {b : Nat} (h : b ≤ tn) : hdK (toks tn tp b) = tkK tn tp b ∧ hdV (toks tn tp b) = tkV tn tp b ∧ hdB (toks tn tp b) = b := by
  rw [toks_eq h]
  exact ⟨rfl, rfl, rfl⟩
theorem toks_tl {tn : Nat} {tp : Nat → Int} {b : Nat} (h : b < tn) : (toks tn tp b).tail = toks tn tp (tkN tn tp (tkL tn tp b)) := by
  rw [toks_eq (Nat.le_of_lt h), if_neg (by omega)]
  rfl
theorem toks_len {tn : Nat} {tp : Nat → Int} : ∀ (n b : Nat), b ≤ tn → tn - b ≤ n → (toks tn tp b).length ≤ tn + 1 - b := by
  intro n
  induction n with
  | zero =>
    intro b h1 h2
    rw [toks_eq h1, if_pos (by omega)]
    show 1 ≤ _
    omega
  | succ n ih =>
    intro b h1 h2
    rw [toks_eq h1]
    by_cases c : tn ≤ b
    · rw [if_pos c]
      show 1 ≤ _
      omega
    · rw [if_neg c]
      have h4 := tkL_b (tp := tp) h1
      have h5 := tkN_b (tp := tp) h4.2.1
      have := ih _ h5.2 (by omega)
      show (toks tn tp _).length + 1 ≤ _
      omega
theorem nvF_b {tp : Nat → Int} {b : Nat} : ∀ n : Nat, n ≤ 4 → (∀ i, b ≤ i → i < b + n → isDi (tp i) = true) → 0 ≤ nvF tp b n ∧ nvF tp b n < ((10 ^ n : Nat) : Int) := by
  intro n
  induction n with
  | zero => intro _ _; exact ⟨Int.le_refl 0, by show (0 : Int) < ((10 ^ 0 : Nat) : Int); decide⟩
  | succ n ih =>
    intro h1 h2
    have h3 := ih (by omega) (fun i a c => h2 i a (by omega))
    have h4 := of_decide_eq_true (h2 (b + n) (by omega) (by omega))
    unfold nvF
    have e : ((10 ^ (n + 1) : Nat) : Int) = ((10 ^ n : Nat) : Int) * 10 := by
      rw [Nat.pow_succ, Int.natCast_mul]
      rfl
    omega
theorem tkV_b {tn : Nat} {tp : Nat → Int} {b : Nat} (h : tkK tn tp b = 1) : tkL tn tp b - b ≤ 4 ∧ 0 ≤ tkV tn tp b ∧ tkV tn tp b ≤ 9999 := by
  have h1 := wdC_b (slF tp (tkL tn tp b - b) b)
  have h2 := sgC_b (tp b)
  unfold tkK at h
  by_cases c1 : tn ≤ b
  · rw [if_pos c1] at h
    omega
  rw [if_neg c1] at h
  by_cases c2 : isLe (tp b) = true
  · rw [if_pos c2] at h
    omega
  rw [if_neg c2] at h
  by_cases c3 : isDi (tp b) = true
  · rw [if_pos c3] at h
    by_cases c4 : 4 < tkL tn tp b - b
    · rw [if_pos c4] at h
      omega
    · have el : tkL tn tp b = rnP isDi tp (tn - b) b := by
        unfold tkL
        rw [if_neg c1, if_neg c2, if_pos c3]
      have h5 := nvF_b (tp := tp) (b := b) (tkL tn tp b - b) (by omega) (fun i a c => rnP_in isDi tp (tn - b) b i a (by rw [← el]; omega))
      have h6 : 10 ^ (tkL tn tp b - b) ≤ 10 ^ 4 := Nat.pow_le_pow_right (by decide) (by omega)
      have h7 : ((10 ^ (tkL tn tp b - b) : Nat) : Int) ≤ 10000 := Int.ofNat_le.mpr h6
      unfold tkV
      omega
  · rw [if_neg c3] at h
    omega
theorem toks_ok {tn : Nat} {tp : Nat → Int} : ∀ (n b : Nat), b ≤ tn → tn - b ≤ n → okT (toks tn tp b) := by
  intro n
  have one : ∀ b (t : Tok), t = (tkK tn tp b, tkV tn tp b, b) → t.1 = 1 → 0 ≤ t.2.1 ∧ t.2.1 ≤ 9999 := by
    intro b t e h
    subst e
    exact (tkV_b h).2
  induction n with
  | zero =>
    intro b h1 h2 t ht
    rw [toks_eq h1, if_pos (by omega)] at ht
    exact one b t (List.mem_singleton.mp ht)
  | succ n ih =>
    intro b h1 h2 t ht
    rw [toks_eq h1] at ht
    by_cases c : tn ≤ b
    · rw [if_pos c] at ht
      exact one b t (List.mem_singleton.mp ht)
    · rw [if_neg c] at ht
      have h4 := tkL_b (tp := tp) h1
      have h5 := tkN_b (tp := tp) h4.2.1
      rcases List.mem_cons.mp ht with e | e
      · exact one b t e
      · exact ih _ h5.2 (by omega) t e
