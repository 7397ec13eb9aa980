/-! the script's cell is never written -/
def SC (w w' : ai_H) : Prop := mN w ≤ 1000000 → mN w' ≤ 1000000 ∧ (∀ j, mI w' 1000300 j = mI w 1000300 j) ∧ (∀ j, mP w' 1000300 j = mP w 1000300 j) ∧ mN w ≤ mN w' ∧ ∀ i, i < mN w → mS w' i = mS w i
theorem SC.refl (w : ai_H) : SC w w := fun h => ⟨h, fun _ => rfl, fun _ => rfl, Nat.le_refl _, fun _ _ => rfl⟩
theorem SC.trans {a b c : ai_H} (h1 : SC a b) (h2 : SC b c) : SC a c := fun h => by
  obtain ⟨k1, k2, k3, k4, k5⟩ := h1 h
  obtain ⟨l1, l2, l3, l4, l5⟩ := h2 k1
  exact ⟨l1, fun j => (l2 j).trans (k2 j), fun j => (l3 j).trans (k3 j), Nat.le_trans k4 l4, fun i hi => (l5 i (Nat.lt_of_lt_of_le hi k4)).trans (k5 i hi)⟩
theorem sc_lt {w : ai_H} {a : Nat} (h : ¬ (mS w a).1 = 0) : a < mN w := mS_lt (t := mS w a) rfl h
theorem SC.i {w : ai_H} {a f : Nat} {x : Int32} (h : ¬ (mS w a).1 = 0) : SC w (msI w a f x) := fun hn => ⟨hn, fun j => by
  have := sc_lt h
  rw [mI_msI, if_neg (by omega)], fun j => rfl, Nat.le_refl _, fun _ _ => rfl⟩
theorem SC.p {w : ai_H} {a f : Nat} {x : Option Nat} (h : ¬ (mS w a).1 = 0) : SC w (msP w a f x) := fun hn => ⟨hn, fun j => rfl, fun j => by
  have := sc_lt h
  rw [mP_msP, if_neg (by omega)], Nat.le_refl _, fun _ _ => rfl⟩
theorem SC.a {w : ai_H} {a : Nat} {f : Nat → Int32} (h : ¬ (mS w a).1 = 0) : SC w (msA w a f) := fun hn => ⟨hn, fun j => by
  have := sc_lt h
  rw [mI_msA, if_neg (by omega)], fun j => rfl, Nat.le_refl _, fun _ _ => rfl⟩
theorem SC.n {w : ai_H} {t : ai_S} (h : mN w < 1000000) : SC w (mnew w t) := fun hn => ⟨by rw [mN_mnew]; omega, fun j => by rw [mI_mnew, if_neg (by omega)], fun j => by rw [mP_mnew, if_neg (by omega)], by rw [mN_mnew]; omega, fun i hi => by rw [mS_mnew, if_neg (by omega)]⟩
theorem SC.an {w : ai_H} {t : ai_S} {f : Nat → Int32} (h : mN w < 1000000) : SC w (msA (mnew w t) (mN w) f) := fun hn => ⟨by rw [mN_msA, mN_mnew]; omega, fun j => by rw [mI_msA, if_neg (by omega), mI_mnew, if_neg (by omega)], fun j => by rw [mP_msA, mP_mnew, if_neg (by omega)], by rw [mN_msA, mN_mnew]; omega, fun i hi => by rw [mS_msA, mS_mnew, if_neg (by omega)]⟩
theorem sc_go {pc : Nat} {L : List (Option Value)} {st : List Value} {k : Nat × Nat} {w w1 : ai_H} {c' : ai_C} (h : ai_go pc L st k w1 = some c') (hs : SC w w1) : SC w c'.2.2.2.2 := by
  unfold ai_go at h
  cases h
  exact hs
theorem sc_br {b : Bool} {pc : Nat} {off : Int} {L : List (Option Value)} {st : List Value} {k : Nat × Nat} {w : ai_H} {c' : ai_C} (h : ai_br b pc off L st k w = some c') : SC w c'.2.2.2.2 := by
  unfold ai_br at h
  split at h
  · split at h
    · exact sc_go h (SC.refl w)
    · exact sc_go h (SC.refl w)
  · cases h
section SCS
variable {m : ai_M} {pc : Nat} {L : List (Option Value)} {st : List Value} {k : Nat × Nat} {w : ai_H} {c' : ai_C}
theorem sc_put {ix : Nat} (h : ai_stepI m (.putfield ix) pc L st k w = some c') : SC w c'.2.2.2.2 := by
  unfold ai_stepI at h
  dsimp only at h
  split at h
  · split at h
    · rename_i ci f kind fin nst _ v a st'
      split at h
      · rename_i hc
        have hz : ¬ (mS w a).1 = 0 := by rw [hc.2.1]; show ¬ (1 : Nat) = 0; decide
        split at h
        · split at h
          · exact sc_go h (SC.i hz)
          · cases h
        · split at h
          · exact sc_go h (SC.p hz)
          · cases h
        · split at h
          · exact sc_go h (SC.p hz)
          · cases h
        · cases h
      · cases h
    · cases h
  · cases h
theorem sc_ias (h : ai_stepI m .iastore pc L st k w = some c') : SC w c'.2.2.2.2 := by
  unfold ai_stepI at h
  dsimp only at h
  split at h
  · split at h
    · rename_i hc
      exact sc_go h (SC.i (by rw [hc.1]; decide))
    · cases h
  · cases h
theorem sc_bas (h : ai_stepI m .bastore pc L st k w = some c') : SC w c'.2.2.2.2 := by
  unfold ai_stepI at h
  dsimp only at h
  split at h
  · split at h
    · rename_i hc
      exact sc_go h (SC.i (by rw [hc.1]; decide))
    · cases h
  · cases h
theorem sc_aas (h : ai_stepI m .aastore pc L st k w = some c') : SC w c'.2.2.2.2 := by
  unfold ai_stepI at h
  dsimp only at h
  split at h
  · split at h
    · rename_i hc
      refine sc_go h (SC.p ?_)
      rcases hc.1 with hd | hd <;> rw [hd.1] <;> decide
    · cases h
  · cases h
theorem sc_newa {t : ArrayType} (h : ai_stepI m (.newarray t) pc L st k w = some c') : SC w c'.2.2.2.2 := by
  unfold ai_stepI at h
  dsimp only at h
  split at h
  · split at h
    · rename_i hc
      split at h
      · exact sc_go h (SC.n hc.2.2.2.2)
      · exact sc_go h (SC.n hc.2.2.2.2)
      · cases h
    · cases h
  · cases h
theorem sc_ana {ix : Nat} (h : ai_stepI m (.anewarray ix) pc L st k w = some c') : SC w c'.2.2.2.2 := by
  unfold ai_stepI at h
  dsimp only at h
  split at h
  · split at h
    · split at h
      · rename_i hc
        split at h
        · exact sc_go h (SC.n hc.2.2.2.2)
        · split at h
          · exact sc_go h (SC.n hc.2.2.2.2)
          · cases h
      · cases h
    · cases h
  · cases h
theorem sc_new {ix : Nat} (h : ai_stepI m (.new ix) pc L st k w = some c') : SC w c'.2.2.2.2 := by
  unfold ai_stepI at h
  dsimp only at h
  split at h
  · split at h
    · rename_i hc
      exact sc_go h (SC.n hc.2.2.2)
    · cases h
  · cases h
set_option maxHeartbeats 8000000 in
theorem sc_stepI {i : Instr} (h : ai_stepI m i pc L st k w = some c') : SC w c'.2.2.2.2 := by
  cases i
  case putfield ix => exact sc_put h
  case iastore => exact sc_ias h
  case bastore => exact sc_bas h
  case aastore => exact sc_aas h
  case newarray t => exact sc_newa h
  case anewarray ix => exact sc_ana h
  case new ix => exact sc_new h
  all_goals (unfold ai_stepI at h; dsimp only at h)
  all_goals (repeat' split at h)
  all_goals first | (cases h; done) | exact sc_go h (SC.refl w) | exact sc_br h
theorem sc_nat {v : Nat} (h : ai_nat v pc L st k w m = some c') : SC w c'.2.2.2.2 := by
  unfold ai_nat at h
  split at h
  · split at h
    · exact sc_go h (SC.refl w)
    · cases h
  · split at h
    · rename_i hc
      exact sc_go h (SC.a (by rw [hc.2.1]; decide))
    · cases h
  · split at h
    · rename_i hc
      exact sc_go h (SC.an hc.2.2.2.1)
    · cases h
  · cases h
theorem sc_call {op ix : Nat} (h : ai_call op m ix pc L st k w = some (.inl c')) : SC w c'.2.2.2.2 := by
  unfold ai_call at h
  split at h
  · dsimp only at h
    split at h
    · split at h
      · split at h
        · cases h
        · cases h
      · split at h
        · split at h
          · cases h
          · cases h
        · cases h
    · cases h
  · split at h
    · split at h
      · rename_i v _ _
        cases hn : ai_nat v pc L st k w m with
        | none => rw [hn] at h; cases h
        | some c2 =>
          rw [hn] at h
          cases h
          exact sc_nat hn
      · cases h
    · cases h
theorem sc_step {c : ai_C} (h : ai_step m c = some (.inl c')) : SC c.2.2.2.2 c'.2.2.2.2 := by
  unfold ai_step at h
  split at h
  · rename_i i len _
    have ret : ∀ {i : Instr}, ai_ret m i c.2.2.1 c.2.2.2.1 = some (.inl c') → False := fun {i} z => by
      unfold ai_ret at z
      split at z
      · cases hq : ai_ret0 m i c.2.2.1 with
        | none => rw [hq] at z; cases z
        | some q => rw [hq] at z; cases z
      · cases z
    have gen : ∀ {i : Instr} {b : Bool}, (if b = true then (ai_stepI m i c.1 c.2.1 c.2.2.1 c.2.2.2.1 c.2.2.2.2).map Sum.inl else none : Option ai_R) = some (.inl c') → SC c.2.2.2.2 c'.2.2.2.2 := fun {i b} z => by
      split at z
      · cases hq : ai_stepI m i c.1 c.2.1 c.2.2.1 c.2.2.2.1 c.2.2.2.2 with
        | none => rw [hq] at z; cases z
        | some q =>
          rw [hq] at z
          cases z
          exact sc_stepI hq
      · cases z
    have cal : ∀ {op ix : Nat} {b : Prop} [Decidable b], (if b then ai_call op m ix c.1 c.2.1 c.2.2.1 c.2.2.2.1 c.2.2.2.2 else none : Option ai_R) = some (.inl c') → SC c.2.2.2.2 c'.2.2.2.2 := fun z => by
      split at z
      · exact sc_call z
      · cases z
    have rt : ∀ {i : Instr} {b : Prop} [Decidable b], (if b then ai_ret m i c.2.2.1 c.2.2.2.1 else none : Option ai_R) = some (.inl c') → SC c.2.2.2.2 c'.2.2.2.2 := fun z => by
      split at z
      · exact absurd z (fun y => ret y)
      · cases z
    split at h
    · exact cal h
    · exact cal h
    · exact cal h
    · exact rt h
    · exact rt h
    · exact rt h
    · exact rt h
    · exact gen h
  · cases h
end SCS
theorem sc_ex : ∀ (n d : Nat) (m : ai_M) (c : ai_C) (r : Option Value) (w' : ai_H), ai_ex n d m c = some (r, w') → SC c.2.2.2.2 w' := by
  intro n
  induction n with
  | zero => intro d m c r w' h; cases h
  | succ n ih =>
    intro d m c r w' h
    unfold ai_ex at h
    cases hs : ai_step m c with
    | none => rw [hs] at h; cases h
    | some res =>
      rw [hs] at h
      match res, h, hs with
      | .inl c', h, hs => exact (sc_step hs).trans (ih d m c' r w' h)
      | .inr (.inl r'), h, hs =>
        cases h
        exact SC.refl _
      | .inr (.inr (m', as, rest)), h, hs =>
        match d, h with
        | 0, h => cases h
        | d' + 1, h =>
          dsimp only at h
          cases he : ai_ex n d' m' (0, ai_entry as m'.1.2.2.1, [], (0, 0), c.2.2.2.2) with
          | none => rw [he] at h; cases h
          | some q =>
            rw [he] at h
            have h1 := ih d' m' _ q.1 q.2 he
            exact h1.trans (ih (d' + 1) m _ r w' h)
theorem Cl_sc {d : Nat} {m : ai_M} {as : List Value} {w : ai_H} {Q : Option Value → ai_H → Prop} (h : Cl d m as w Q) : Cl d m as w (fun r w' => Q r w' ∧ SC w w') := by
  obtain ⟨n, r, w', h1, h2⟩ := h
  exact ⟨n, r, w', h1, h2, sc_ex n d m _ r w' h1⟩
