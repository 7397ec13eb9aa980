/-! a thing of a game is changed in thought -/
theorem ug_s {g : Nat → Int} {i : Nat} {v : Int} : ug g i v i = v := if_pos rfl
theorem ug_n {g : Nat → Int} {i j : Nat} {v : Int} (h : ¬ j = i) : ug g i v j = g j := if_neg h
theorem GB.u1 {g : Nat → Int} (h : GB g) {v : Int} (h0 : 0 ≤ v) (h1 : v < g 0) : GB (ug g 1 v) := by
  have b := h.b
  refine ⟨?_, fun e he => ?_⟩
  · rw [ug_n (by decide), ug_s, ug_n (by decide), ug_n (by decide), ug_n (by decide)]
    omega
  · rw [ug_n (by decide)] at he
    have := h.2 e he
    unfold GE at this ⊢
    simp (disch := omega) only [ug_n]
    exact this
theorem GB.u2 {g : Nat → Int} (h : GB g) {v : Int} (h0 : 0 ≤ v) (h1 : v ≤ 1000) : GB (ug g 2 v) := by
  have b := h.b
  refine ⟨?_, fun e he => ?_⟩
  · rw [ug_n (by decide), ug_n (by decide), ug_s, ug_n (by decide), ug_n (by decide)]
    omega
  · rw [ug_n (by decide)] at he
    have := h.2 e he
    unfold GE at this ⊢
    simp (disch := omega) only [ug_n]
    exact this
theorem GB.u4 {g : Nat → Int} (h : GB g) {v : Int} (h0 : 0 ≤ v) (h1 : v < 6) : GB (ug g 4 v) := by
  have b := h.b
  refine ⟨?_, fun e he => ?_⟩
  · rw [ug_n (by decide), ug_n (by decide), ug_n (by decide), ug_n (by decide), ug_s]
    omega
  · rw [ug_n (by decide)] at he
    have := h.2 e he
    unfold GE at this ⊢
    simp (disch := omega) only [ug_n]
    exact this
theorem GB.uk {g : Nat → Int} (h : GB g) {i : Nat} {v : Int} (hi : 10 ≤ i ∧ i < 45) (hv : (i < 15 ∧ 0 ≤ v ∧ v ≤ 5) ∨ (20 ≤ i ∧ i < 25 ∧ 0 ≤ v ∧ v ≤ 9) ∨ (40 ≤ i ∧ -1 ≤ v ∧ v ≤ 3)) : GB (ug g i v) := by
  have b := h.b
  have n0 : ug g i v 0 = g 0 := ug_n (by omega)
  have n1 : ug g i v 1 = g 1 := ug_n (by omega)
  have n2 : ug g i v 2 = g 2 := ug_n (by omega)
  have n3 : ug g i v 3 = g 3 := ug_n (by omega)
  have n4 : ug g i v 4 = g 4 := ug_n (by omega)
  refine ⟨by rw [n0, n1, n2, n3, n4]; exact h.1, fun e he => ?_⟩
  rw [n3] at he
  have hg := h.2 e he
  unfold GE at hg ⊢
  rw [n3]
  have f : ∀ j, ug g i v j = if j = i then v else g j := fun j => rfl
  rw [f, f, f, f]
  clear f n0 n1 n2 n3 n4
  by_cases c1 : 10 + e = i
  · rw [if_pos c1, if_neg (by omega), if_neg (by omega), if_neg (by omega)]
    omega
  · rw [if_neg c1]
    by_cases c2 : 20 + e = i
    · rw [if_pos c2, if_neg (by omega), if_neg (by omega)]
      omega
    · rw [if_neg c2]
      by_cases c3 : 30 + e = i
      · exfalso
        omega
      · rw [if_neg c3]
        by_cases c4 : 40 + e = i
        · rw [if_pos c4]
          omega
        · rw [if_neg c4]
          exact hg
theorem PO.t_at {w : ai_H} {g : Nat → Int} (h : PO w 14 g) : ∀ e : Nat, (e : Int) < g 3 → mI w 15 e = jI (g (10 + e)) ∧ mI w 16 e = jI (g (20 + e)) ∧ mI w 17 e = jI (g (30 + e)) ∧ mI w 18 e = jI (g (40 + e)) := fun e he => by
  have := h.2.2.2 e he
  unfold PE at this
  rw [mI_v, mI_v w 16, mI_v w 17, mI_v w 18]
  exact ⟨congrArg jI this.1, congrArg jI this.2.1, congrArg jI this.2.2.1, congrArg jI this.2.2.2⟩
theorem PO.u1 {w : ai_H} {g : Nat → Int} (h : PO w 14 g) {v : Int} (h0 : 0 ≤ v) (h1 : v < g 0) : PO (msI w 14 2 (jI v)) 14 (ug g 1 v) := by
  have ta := h.t_at
  refine PO.of h.1 (h.gb.u1 h0 h1) ?_ ?_ ?_ ?_ ?_ (fun e he => ?_)
  · rw [ug_n (by decide), mI_msI, if_neg (by decide)]; exact h.i1
  · rw [ug_s, mI_msI, if_pos ⟨rfl, rfl⟩]
  · rw [ug_n (by decide), mI_msI, if_neg (by decide)]; exact h.i3
  · rw [ug_n (by decide), mI_msI, if_neg (by decide)]; exact h.i5
  · rw [ug_n (by decide), mI_msI, if_neg (by decide)]; exact h.i6
  · rw [ug_n (by decide)] at he
    have b := h.gb.b
    rw [ug_n (by omega), ug_n (by omega), ug_n (by omega), ug_n (by omega), mI_msI, if_neg (by omega), mI_msI, if_neg (by omega), mI_msI, if_neg (by omega), mI_msI, if_neg (by omega)]
    exact ta e he
theorem PO.u2 {w : ai_H} {g : Nat → Int} (h : PO w 14 g) {v : Int} (h0 : 0 ≤ v) (h1 : v ≤ 1000) : PO (msI w 14 3 (jI v)) 14 (ug g 2 v) := by
  have ta := h.t_at
  refine PO.of h.1 (h.gb.u2 h0 h1) ?_ ?_ ?_ ?_ ?_ (fun e he => ?_)
  · rw [ug_n (by decide), mI_msI, if_neg (by decide)]; exact h.i1
  · rw [ug_n (by decide), mI_msI, if_neg (by decide)]; exact h.i2
  · rw [ug_s, mI_msI, if_pos ⟨rfl, rfl⟩]
  · rw [ug_n (by decide), mI_msI, if_neg (by decide)]; exact h.i5
  · rw [ug_n (by decide), mI_msI, if_neg (by decide)]; exact h.i6
  · rw [ug_n (by decide)] at he
    have b := h.gb.b
    rw [ug_n (by omega), ug_n (by omega), ug_n (by omega), ug_n (by omega), mI_msI, if_neg (by omega), mI_msI, if_neg (by omega), mI_msI, if_neg (by omega), mI_msI, if_neg (by omega)]
    exact ta e he
theorem PO.u4 {w : ai_H} {g : Nat → Int} (h : PO w 14 g) {v : Int} (h0 : 0 ≤ v) (h1 : v < 6) : PO (msI w 14 6 (jI v)) 14 (ug g 4 v) := by
  have ta := h.t_at
  refine PO.of h.1 (h.gb.u4 h0 h1) ?_ ?_ ?_ ?_ ?_ (fun e he => ?_)
  · rw [ug_n (by decide), mI_msI, if_neg (by decide)]; exact h.i1
  · rw [ug_n (by decide), mI_msI, if_neg (by decide)]; exact h.i2
  · rw [ug_n (by decide), mI_msI, if_neg (by decide)]; exact h.i3
  · rw [ug_n (by decide), mI_msI, if_neg (by decide)]; exact h.i5
  · rw [ug_s, mI_msI, if_pos ⟨rfl, rfl⟩]
  · rw [ug_n (by decide)] at he
    have b := h.gb.b
    rw [ug_n (by omega), ug_n (by omega), ug_n (by omega), ug_n (by omega), mI_msI, if_neg (by omega), mI_msI, if_neg (by omega), mI_msI, if_neg (by omega), mI_msI, if_neg (by omega)]
    exact ta e he
theorem PO.uk {w : ai_H} {g : Nat → Int} (h : PO w 14 g) {r e0 : Nat} {v : Int} (hr : r = 1 ∨ r = 2 ∨ r = 4) (he0 : (e0 : Int) < g 3) (hv : (r = 1 ∧ 0 ≤ v ∧ v ≤ 5) ∨ (r = 2 ∧ 0 ≤ v ∧ v ≤ 9) ∨ (r = 4 ∧ -1 ≤ v ∧ v ≤ 3)) : PO (msI w (14 + r) e0 (jI v)) 14 (ug g (10 * r + e0) v) := by
  have ta := h.t_at
  have b := h.gb.b
  refine PO.of h.1 (h.gb.uk (by omega) (by omega)) ?_ ?_ ?_ ?_ ?_ (fun e he => ?_)
  · rw [ug_n (by omega), mI_msI, if_neg (by omega)]; exact h.i1
  · rw [ug_n (by omega), mI_msI, if_neg (by omega)]; exact h.i2
  · rw [ug_n (by omega), mI_msI, if_neg (by omega)]; exact h.i3
  · rw [ug_n (by omega), mI_msI, if_neg (by omega)]; exact h.i5
  · rw [ug_n (by omega), mI_msI, if_neg (by omega)]; exact h.i6
  · rw [ug_n (by omega)] at he
    obtain ⟨t1, t2, t3, t4⟩ := ta e he
    have key : ∀ q : Nat, q = 1 ∨ q = 2 ∨ q = 3 ∨ q = 4 → mI w (14 + q) e = jI (g (10 * q + e)) → mI (msI w (14 + r) e0 (jI v)) (14 + q) e = jI (ug g (10 * r + e0) v (10 * q + e)) := by
      intro q hq hx
      rw [mI_msI, ug]
      by_cases c : q = r ∧ e = e0
      · rw [if_pos (by omega), if_pos (by omega)]
      · rw [if_neg (by omega), if_neg (by omega)]
        exact hx
    exact ⟨key 1 (by omega) t1, key 2 (by omega) t2, key 3 (by omega) t3, key 4 (by omega) t4⟩
theorem MO.u1 {w : ai_H} {g : Nat → Int} (h : MO w g) {v : Int} (h0 : 0 ≤ v) (h1 : v < g 0) : MO (msI w 47 5 (jI v)) (ug g 1 v) := by
  refine ⟨h.1, h.gb.u1 h0 h1, ⟨?_, ?_, ?_, ?_, ?_⟩, fun e he => ?_⟩
  · rw [ug_n (by decide), mI_msI, if_neg (by decide)]; exact h.i0
  · rw [ug_n (by decide), mI_msI, if_neg (by decide)]; exact h.i4
  · rw [ug_s, mI_msI, if_pos ⟨rfl, rfl⟩]
  · rw [ug_n (by decide), mI_msI, if_neg (by decide)]; exact h.i6
  · rw [ug_n (by decide), mI_msI, if_neg (by decide)]; exact h.i14
  · rw [ug_n (by decide)] at he
    have b := h.gb.b
    rw [ug_n (by omega), ug_n (by omega), ug_n (by omega), ug_n (by omega), mI_msI, if_neg (by omega), mI_msI, if_neg (by omega), mI_msI, if_neg (by omega), mI_msI, if_neg (by omega)]
    exact h.2.2.2 e he
theorem MO.u2 {w : ai_H} {g : Nat → Int} (h : MO w g) {v : Int} (h0 : 0 ≤ v) (h1 : v ≤ 1000) : MO (msI w 47 6 (jI v)) (ug g 2 v) := by
  refine ⟨h.1, h.gb.u2 h0 h1, ⟨?_, ?_, ?_, ?_, ?_⟩, fun e he => ?_⟩
  · rw [ug_n (by decide), mI_msI, if_neg (by decide)]; exact h.i0
  · rw [ug_n (by decide), mI_msI, if_neg (by decide)]; exact h.i4
  · rw [ug_n (by decide), mI_msI, if_neg (by decide)]; exact h.i5
  · rw [ug_s, mI_msI, if_pos ⟨rfl, rfl⟩]
  · rw [ug_n (by decide), mI_msI, if_neg (by decide)]; exact h.i14
  · rw [ug_n (by decide)] at he
    have b := h.gb.b
    rw [ug_n (by omega), ug_n (by omega), ug_n (by omega), ug_n (by omega), mI_msI, if_neg (by omega), mI_msI, if_neg (by omega), mI_msI, if_neg (by omega), mI_msI, if_neg (by omega)]
    exact h.2.2.2 e he
theorem MO.u4 {w : ai_H} {g : Nat → Int} (h : MO w g) {v : Int} (h0 : 0 ≤ v) (h1 : v < 6) : MO (msI w 47 14 (jI v)) (ug g 4 v) := by
  refine ⟨h.1, h.gb.u4 h0 h1, ⟨?_, ?_, ?_, ?_, ?_⟩, fun e he => ?_⟩
  · rw [ug_n (by decide), mI_msI, if_neg (by decide)]; exact h.i0
  · rw [ug_n (by decide), mI_msI, if_neg (by decide)]; exact h.i4
  · rw [ug_n (by decide), mI_msI, if_neg (by decide)]; exact h.i5
  · rw [ug_n (by decide), mI_msI, if_neg (by decide)]; exact h.i6
  · rw [ug_s, mI_msI, if_pos ⟨rfl, rfl⟩]
  · rw [ug_n (by decide)] at he
    have b := h.gb.b
    rw [ug_n (by omega), ug_n (by omega), ug_n (by omega), ug_n (by omega), mI_msI, if_neg (by omega), mI_msI, if_neg (by omega), mI_msI, if_neg (by omega), mI_msI, if_neg (by omega)]
    exact h.2.2.2 e he
/-- kind (r 1), more (2), the last reason (4) of one -/
theorem MO.uk {w w' : ai_H} {g : Nat → Int} (h : MO w g) {r e0 : Nat} {v : Int} (hr : r = 1 ∨ r = 2 ∨ r = 4) (he0 : (e0 : Int) < g 3) (hv : (r = 1 ∧ 0 ≤ v ∧ v ≤ 5) ∨ (r = 2 ∧ 0 ≤ v ∧ v ≤ 9) ∨ (r = 4 ∧ -1 ≤ v ∧ v ≤ 3)) (hw : (r = 1 ∧ w' = msI w 48 e0 (jI v)) ∨ (r = 2 ∧ w' = msI w 49 e0 (jI v)) ∨ (r = 4 ∧ w' = msI w 50 (3 * e0 + 1) (jI v))) : MO w' (ug g (10 * r + e0) v) := by
  have b := h.gb.b
  obtain ⟨i, k, hik, ew⟩ : ∃ i k, ((r = 1 ∧ i = 48 ∧ k = e0) ∨ (r = 2 ∧ i = 49 ∧ k = e0) ∨ (r = 4 ∧ i = 50 ∧ k = 3 * e0 + 1)) ∧ w' = msI w i k (jI v) := by
    rcases hw with hw | hw | hw
    · exact ⟨48, e0, Or.inl ⟨hw.1, rfl, rfl⟩, hw.2⟩
    · exact ⟨49, e0, Or.inr (Or.inl ⟨hw.1, rfl, rfl⟩), hw.2⟩
    · exact ⟨50, 3 * e0 + 1, Or.inr (Or.inr ⟨hw.1, rfl, rfl⟩), hw.2⟩
  subst ew
  refine ⟨h.1, h.gb.uk (by omega) (by omega), ⟨?_, ?_, ?_, ?_, ?_⟩, fun e he => ?_⟩
  · rw [ug_n (by omega), mI_msI, if_neg (by omega)]; exact h.i0
  · rw [ug_n (by omega), mI_msI, if_neg (by omega)]; exact h.i4
  · rw [ug_n (by omega), mI_msI, if_neg (by omega)]; exact h.i5
  · rw [ug_n (by omega), mI_msI, if_neg (by omega)]; exact h.i6
  · rw [ug_n (by omega), mI_msI, if_neg (by omega)]; exact h.i14
  · rw [ug_n (by omega)] at he
    obtain ⟨t1, t2, t3, t4⟩ := h.2.2.2 e he
    have key : ∀ (q a b : Nat), ((q = 1 ∧ a = 48 ∧ b = e) ∨ (q = 2 ∧ a = 49 ∧ b = e) ∨ (q = 3 ∧ a = 50 ∧ b = 3 * e) ∨ (q = 4 ∧ a = 50 ∧ b = 3 * e + 1)) → mI w a b = jI (g (10 * q + e)) → mI (msI w i k (jI v)) a b = jI (ug g (10 * r + e0) v (10 * q + e)) := by
      intro q a b hq hx
      rw [mI_msI, ug]
      by_cases c : q = r ∧ e = e0
      · rw [if_pos (by omega), if_pos (by omega)]
      · rw [if_neg (by omega), if_neg (by omega)]
        exact hx
    exact ⟨key 1 48 e (by omega) t1, key 2 49 e (by omega) t2, key 3 50 (3 * e) (by omega) t3, key 4 50 (3 * e + 1) (by omega) t4⟩
/-! what a turn leaves as it is -/
theorem pgF_o (T : Nat → Nat → List Int) (S : Nat → Nat → Int) (q : Nat) : ∀ (m k : Nat) (g : Nat → Int) (f : Int), GB g → 1 ≤ g 3 → g 2 + m < 1000 → (∀ i : Nat, i < 2 * (k + m) → okm (S q i) i) → GB (pgF T S q m k g f).2 ∧ ∀ j, ¬ j = 1 → ¬ j = 2 → (j < 40 ∨ 45 ≤ j) → (pgF T S q m k g f).2 j = g j := by
  intro m
  induction m with
  | zero =>
    intro k g f h1 h2 h3 h4
    exact ⟨h1, fun j _ _ _ => rfl⟩
  | succ m ih =>
    intro k g f h1 h2 h3 h4
    have mb := mvF_b h1 h2
    have b := h1.b
    have o3 := h4 (2 * k + 1) (by omega)
    unfold okm at o3
    have s1 := o3.2 (by omega)
    unfold pgF
    have h5 := ih (k + 1) (ttF g (S q (2 * k)) (S q (2 * k + 1))) (if f < 0 ∧ mayF T g (mvF g) (S q (2 * k)) = 0 then k else f) (ttF_gb h1 h2 (by omega) (by omega) (by omega)) (by rw [ttF_3]; exact h2) (by rw [ttF_2]; omega) (fun i hi => h4 i (by omega))
    refine ⟨h5.1, fun j a1 a2 a3 => ?_⟩
    rw [h5.2 j a1 a2 a3, ttF_o a1 a2 (by omega)]
theorem hmF_c {g g' : Nat → Int} (h0 : g' 0 = g 0) (h3 : g' 3 = g 3) (e : Int) : hmF g' e = hmF g e := by
  unfold hmF
  rw [h0, h3]
theorem wnF_c {g g' : Nat → Int} (h0 : g' 0 = g 0) (h3 : g' 3 = g 3) (pl : Int) : ∀ n, wnF g' pl n = wnF g pl n := by
  intro n
  induction n with
  | zero => rfl
  | succ n ih =>
    unfold wnF
    rw [ih, h0, hmF_c h0 h3, hmF_c h0 h3]
theorem wsF_c {g g' : Nat → Int} (h : ∀ e : Nat, g' (30 + e) = g (30 + e)) (x : Int) : ∀ n, wsF g' x n = wsF g x n := by
  intro n
  induction n with
  | zero => rfl
  | succ n ih =>
    unfold wsF
    rw [ih, h]
