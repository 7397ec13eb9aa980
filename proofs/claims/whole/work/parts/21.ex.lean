/-! Ex: the abstract machine comes to an end with Q; one rewrite rule a kind of instruction -/
theorem ai_ex_mono : ∀ (n n' d : Nat) (m : ai_M) (c : ai_C) (x : Option Value × ai_H), ai_ex n d m c = some x → n ≤ n' → ai_ex n' d m c = some x := by
  intro n
  induction n with
  | zero => intro n' d m c x h; cases h
  | succ n ih =>
    intro n' d m c x h hn
    obtain ⟨n', rfl⟩ : ∃ z, n' = z + 1 := ⟨n' - 1, by omega⟩
    unfold ai_ex at h ⊢
    cases hs : ai_step m c with
    | none => rw [hs] at h; cases h
    | some res =>
      rw [hs] at h
      match res, h with
      | .inl c', h => exact ih n' d m c' x h (by omega)
      | .inr (.inl r), h => exact h
      | .inr (.inr (m', as, rest)), h =>
        match d, h with
        | 0, h => cases h
        | d' + 1, h =>
          dsimp only at h ⊢
          cases he : ai_ex n d' m' (0, ai_entry as m'.1.2.2.1, [], (0, 0), c.2.2.2.2) with
          | none => rw [he] at h; cases h
          | some q =>
            rw [he] at h
            rw [ih n' d' m' _ q he (by omega)]
            exact ih n' (d' + 1) m _ x h (by omega)
def Ex (d : Nat) (m : ai_M) (pc : Nat) (L : List (Option Value)) (st : List Value) (k : Nat × Nat) (w : ai_H) (Q : Option Value → ai_H → Prop) : Prop := ∃ (n : Nat) (r : Option Value) (w' : ai_H), ai_ex n d m (pc, L, st, k, w) = some (r, w') ∧ Q r w'
/-- a call -/
def Cl (d : Nat) (m : ai_M) (as : List Value) (w : ai_H) (Q : Option Value → ai_H → Prop) : Prop := Ex d m 0 (ai_entry as m.1.2.2.1) [] (0, 0) w Q
section EXR
variable {d : Nat} {m : ai_M} {pc len : Nat} {L : List (Option Value)} {st : List Value} {k : Nat × Nat} {w : ai_H} {Q : Option Value → ai_H → Prop}
theorem Ex.imp {Q' : Option Value → ai_H → Prop} (h : Ex d m pc L st k w Q) (hq : ∀ r w', Q r w' → Q' r w') : Ex d m pc L st k w Q' := by
  obtain ⟨n, r, w', h1, h2⟩ := h
  exact ⟨n, r, w', h1, hq r w' h2⟩
theorem Ex_step {c' : ai_C} (h : ai_step m (pc, L, st, k, w) = some (.inl c')) : Ex d m pc L st k w Q ↔ Ex d m c'.1 c'.2.1 c'.2.2.1 c'.2.2.2.1 c'.2.2.2.2 Q := by
  constructor
  · rintro ⟨n, r, w', h1, h2⟩
    cases n with
    | zero => cases h1
    | succ n =>
      unfold ai_ex at h1
      rw [h] at h1
      exact ⟨n, r, w', h1, h2⟩
  · rintro ⟨n, r, w', h1, h2⟩
    refine ⟨n + 1, r, w', ?_, h2⟩
    unfold ai_ex
    rw [h]
    exact h1
theorem Ex_none (h : ai_step m (pc, L, st, k, w) = none) : ¬ Ex d m pc L st k w Q := by
  rintro ⟨n, r, w', h1, h2⟩
  cases n with
  | zero => cases h1
  | succ n =>
    unfold ai_ex at h1
    rw [h] at h1
    cases h1
theorem Ex_ret {r : Option Value} (h : ai_step m (pc, L, st, k, w) = some (.inr (.inl r))) : Ex d m pc L st k w Q ↔ Q r w := by
  constructor
  · rintro ⟨n, r', w', h1, h2⟩
    cases n with
    | zero => cases h1
    | succ n =>
      unfold ai_ex at h1
      rw [h] at h1
      cases h1
      exact h2
  · intro h2
    refine ⟨1, r, w, ?_, h2⟩
    unfold ai_ex
    rw [h]
theorem Ex_call {m' : ai_M} {as rest : List Value} (h : ai_step m (pc, L, st, k, w) = some (.inr (.inr (m', as, rest)))) :
    Ex (d + 1) m pc L st k w Q ↔ Cl d m' as w (fun r w' => Ex (d + 1) m (pc + 3) L (r.toList ++ rest) (k.1 + ai_mc m', k.2 + ai_mz m') w' Q) := by
  constructor
  · rintro ⟨n, r, w', h1, h2⟩
    cases n with
    | zero => cases h1
    | succ n =>
      unfold ai_ex at h1
      rw [h] at h1
      dsimp only at h1
      cases he : ai_ex n d m' (0, ai_entry as m'.1.2.2.1, [], (0, 0), w) with
      | none => rw [he] at h1; cases h1
      | some q =>
        rw [he] at h1
        exact ⟨n, q.1, q.2, he, n, r, w', h1, h2⟩
  · rintro ⟨n1, r1, w1, h1, n2, r, w', h2, h3⟩
    refine ⟨max n1 n2 + 1, r, w', ?_, h3⟩
    unfold ai_ex
    rw [h]
    dsimp only
    rw [ai_ex_mono n1 (max n1 n2) d m' _ _ h1 (Nat.le_max_left _ _)]
    exact ai_ex_mono n2 (max n1 n2) (d + 1) m _ _ h2 (Nat.le_max_right _ _)
theorem Ex_if {b : Prop} [Decidable b] {c1 c2 : ai_C} (h : ai_step m (pc, L, st, k, w) = if b then some (.inl c1) else some (.inl c2)) : Ex d m pc L st k w Q ↔ if b then Ex d m c1.1 c1.2.1 c1.2.2.1 c1.2.2.2.1 c1.2.2.2.2 Q else Ex d m c2.1 c2.2.1 c2.2.2.1 c2.2.2.2.1 c2.2.2.2.2 Q := by
  by_cases hb : b
  · rw [if_pos hb] at h ⊢
    exact Ex_step h
  · rw [if_neg hb] at h ⊢
    exact Ex_step h
theorem Ex_guard {b : Prop} [Decidable b] {c1 : ai_C} (h : ai_step m (pc, L, st, k, w) = if b then some (.inl c1) else none) : Ex d m pc L st k w Q ↔ b ∧ Ex d m c1.1 c1.2.1 c1.2.2.1 c1.2.2.2.1 c1.2.2.2.2 Q := by
  by_cases hb : b
  · rw [if_pos hb] at h
    exact (Ex_step h).trans ⟨fun z => ⟨hb, z⟩, fun z => z.2⟩
  · rw [if_neg hb] at h
    exact ⟨fun z => absurd z (Ex_none h), fun z => absurd z.1 hb⟩
theorem Ex_gcall {b : Prop} [Decidable b] {m' : ai_M} {as rest : List Value} (h : ai_step m (pc, L, st, k, w) = if b then some (.inr (.inr (m', as, rest))) else none) :
    Ex (d + 1) m pc L st k w Q ↔ b ∧ Cl d m' as w (fun r w' => Ex (d + 1) m (pc + 3) L (r.toList ++ rest) (k.1 + ai_mc m', k.2 + ai_mz m') w' Q) := by
  by_cases hb : b
  · rw [if_pos hb] at h
    exact (Ex_call h).trans ⟨fun z => ⟨hb, z⟩, fun z => z.2⟩
  · rw [if_neg hb] at h
    exact ⟨fun z => absurd z (Ex_none h), fun z => absurd z.1 hb⟩
theorem ai_step_I {i : Instr} (hd : decode m.1.2.1 pc = .ok (i, len)) (hln : ai_ln i len = true) {c' : Option ai_C} (h : ai_stepI m i pc L st k w = c') (hi : (match i with | .invokevirtual _ => false | .invokestatic _ => false | .invokespecial _ => false | .ireturn => false | .lreturn => false | .areturn => false | .return_ => false | _ => true) = true) :
    ai_step m (pc, L, st, k, w) = c'.map Sum.inl := by
  unfold ai_step
  rw [hd]
  subst h
  cases i <;> first | (cases hi; done) | (show (if _ then _ else none) = _; rw [if_pos hln])
theorem ai_step_V {op ix : Nat} (hop : op < 3) (hd : decode m.1.2.1 pc = .ok (ai_opI op ix, 3)) : ai_step m (pc, L, st, k, w) = ai_call op m ix pc L st k w := by
  unfold ai_step
  rw [hd]
  match op, hop with
  | 0, _ => rfl
  | 1, _ => rfl
  | 2, _ => rfl
theorem ai_step_R {i : Instr} (hd : decode m.1.2.1 pc = .ok (i, 1)) (hi : i = .ireturn ∨ i = .lreturn ∨ i = .areturn ∨ i = .return_) : ai_step m (pc, L, st, k, w) = ai_ret m i st k := by
  unfold ai_step
  rw [hd]
  rcases hi with rfl | rfl | rfl | rfl <;> rfl
end EXR
