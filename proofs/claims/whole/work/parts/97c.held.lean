/-! the model's held signs -/
def rkF (z : Int) : Nat := if z = 2 then 0 else if z = -7 then 1 else if z = -8 then 2 else if z = -14 then 3 else if z = -9 ∨ z = -10 then 4 else if z = -11 ∨ z = -12 then 5 else if z = -13 then 6 else 7
def tpF : List Int → Nat
  | [] => 0
  | s :: _ => rkF s
def opF : List Int → Nat
  | [] => 0
  | s :: H => opF H + (if s = -14 ∨ s = -15 ∨ s = 2 then 1 else 0)
def unF (k : Nat) : List Int → List Int → List Int × List Int
  | [], u => ([], u)
  | s :: H, u => if k ≤ rkF s then unF k H (u ++ [s]) else (s :: H, u)
def nkF (z : Int) : Nat := if rkF z = 4 then 5 else rkF z
def ndT (z : Int) : Nat := if z = 4 ∨ z = 3 then 1 else if -13 ≤ z ∧ z ≤ -7 then nkF z else 0
def mcF : List Tok → Nat → List Int → List Int → RsT
  | [], _, _, _ => flR []
  | t :: r, m, H, u =>
    if m = 0 then
      (if t.1 = 4 then (if (unF 1 H u).1 = [] then (true, r, (unF 1 H u).2) else flR (t :: r))
       else if t.1 = 3 then (if (unF 1 H u).1 = [] then flR (t :: r) else mcF r 0 (unF 7 (unF 1 H u).1.tail (unF 1 H u).2).1 (unF 7 (unF 1 H u).1.tail (unF 1 H u).2).2)
       else if -13 ≤ t.1 ∧ t.1 ≤ -7 then
         (if rkF t.1 = 4 ∧ tpF (unF 5 H u).1 = 4 then flR (t :: r) else mcF r (if t.1 = -7 ∨ t.1 = -8 then 2 else 1) (t.1 :: (unF (nkF t.1) H u).1) (unF (nkF t.1) H u).2)
       else flR (t :: r))
    else if -6 ≤ t.1 ∧ t.1 ≤ -1 then mcF r 0 (unF 7 H (u ++ [t.1])).1 (unF 7 H (u ++ [t.1])).2
    else if t.1 = 1 then mcF r 0 (unF 7 H (u ++ [t.2.1])).1 (unF 7 H (u ++ [t.2.1])).2
    else if t.1 = -14 ∧ m = 2 then (if opF H = 5 then flR (t :: r) else mcF r 2 (-14 :: H) u)
    else if t.1 = -12 then (if opF H = 5 then flR (t :: r) else mcF r 1 (-15 :: H) u)
    else if t.1 = 2 then (if opF H = 5 then flR (t :: r) else mcF r 2 (2 :: H) u)
    else flR (t :: r)
theorem un_id {k : Nat} {H u : List Int} (h : tpF H < k) : unF k H u = (H, u) := by
  cases H with
  | nil => rfl
  | cons s H =>
    show (if k ≤ rkF s then _ else (s :: H, u)) = _
    rw [if_neg (show ¬ k ≤ rkF s from Nat.not_le.mpr h)]
theorem un_push {k : Nat} {s : Int} {H u : List Int} (h : k ≤ rkF s) : unF k (s :: H) u = unF k H (u ++ [s]) := by
  show (if k ≤ rkF s then unF k H (u ++ [s]) else _) = _
  rw [if_pos h]
theorem mc_0 {t : Tok} {r : List Tok} {H u : List Int} : mcF (t :: r) 0 H u = (if t.1 = 4 then (if (unF 1 H u).1 = [] then (true, r, (unF 1 H u).2) else flR (t :: r))
       else if t.1 = 3 then (if (unF 1 H u).1 = [] then flR (t :: r) else mcF r 0 (unF 7 (unF 1 H u).1.tail (unF 1 H u).2).1 (unF 7 (unF 1 H u).1.tail (unF 1 H u).2).2)
       else if -13 ≤ t.1 ∧ t.1 ≤ -7 then
         (if rkF t.1 = 4 ∧ tpF (unF 5 H u).1 = 4 then flR (t :: r) else mcF r (if t.1 = -7 ∨ t.1 = -8 then 2 else 1) (t.1 :: (unF (nkF t.1) H u).1) (unF (nkF t.1) H u).2)
       else flR (t :: r)) := by
  rw [mcF]
  rw [if_pos rfl]
theorem mc_1 {t : Tok} {r : List Tok} {m : Nat} {H u : List Int} (h : m = 1 ∨ m = 2) : mcF (t :: r) m H u = (if -6 ≤ t.1 ∧ t.1 ≤ -1 then mcF r 0 (unF 7 H (u ++ [t.1])).1 (unF 7 H (u ++ [t.1])).2
    else if t.1 = 1 then mcF r 0 (unF 7 H (u ++ [t.2.1])).1 (unF 7 H (u ++ [t.2.1])).2
    else if t.1 = -14 ∧ m = 2 then (if opF H = 5 then flR (t :: r) else mcF r 2 (-14 :: H) u)
    else if t.1 = -12 then (if opF H = 5 then flR (t :: r) else mcF r 1 (-15 :: H) u)
    else if t.1 = 2 then (if opF H = 5 then flR (t :: r) else mcF r 2 (2 :: H) u)
    else flR (t :: r)) := by
  rw [mcF]
  rw [if_neg (by omega)]
theorem mc_pop {r : List Tok} {s : Int} {H u : List Int} (h : ndT (hdK r) ≤ rkF s) (h1 : 1 ≤ rkF s) : mcF r 0 (s :: H) u = mcF r 0 H (u ++ [s]) := by
  cases r with
  | nil => rfl
  | cons t r =>
    have h : ndT t.1 ≤ rkF s := h
    rw [mc_0, mc_0, un_push h1]
    by_cases c1 : t.1 = 4
    · rw [if_pos c1, if_pos c1]
    rw [if_neg c1, if_neg c1]
    by_cases c2 : t.1 = 3
    · rw [if_pos c2, if_pos c2]
    rw [if_neg c2, if_neg c2]
    by_cases c3 : -13 ≤ t.1 ∧ t.1 ≤ -7
    · rw [if_pos c3, if_pos c3]
      unfold ndT at h
      rw [if_neg (by omega), if_pos c3] at h
      rw [un_push h]
      by_cases c4 : rkF t.1 = 4
      · unfold nkF at h
        rw [if_pos c4] at h
        rw [un_push h]
      · have n1 : ∀ X : Prop, ¬ (rkF t.1 = 4 ∧ X) := fun X z => c4 z.1
        rw [if_neg (n1 _), if_neg (n1 _)]
    · rw [if_neg c3, if_neg c3]
def SP (f : List Tok → RsT) (o c : Nat) (g : Int → Prop) (sp nm : Bool) : Prop := ∀ (r : List Tok) (m : Nat) (H u : List Int), (m = 1 ∨ m = 2) → (nm = true → m = 2) → (nm = false → m = 1 ∨ ¬ hdK r = -14) → o + opF H = 5 → tpF H < c →
  ((f r).1 = false → mcF r m H u = flR (f r).2.1) ∧
  ((f r).1 = true → (sp = true → isC (hdK (f r).2.1) = true → mcF r m H u = flR (f r).2.1) ∧ ((sp = false ∨ isC (hdK (f r).2.1) = false) → g (hdK (f r).2.1) ∧ mcF r m H u = mcF (f r).2.1 0 H (u ++ (f r).2.2)))
theorem op_cn {z : Int} (h1 : -13 ≤ z) (h2 : z ≤ -7) (H : List Int) : opF (z :: H) = opF H := by
  show opF H + (if z = -14 ∨ z = -15 ∨ z = 2 then 1 else 0) = _
  rw [if_neg (by omega)]
  rfl
theorem ch_sim {sub : List Tok → RsT} {ops : Int → Bool} {o c c' : Nat} {g : Int → Prop} {sp nm : Bool} (hs : SP sub o c' g sp nm) (sh : ShF sub) (o5 : ops 5 = false) (hops : ∀ z, ops z = true → (-13 ≤ z ∧ z ≤ -7) ∧ isC z = false ∧ c ≤ nkF z ∧ rkF z < c' ∧ 1 ≤ rkF z ∧ ¬ rkF z = 4 ∧ (nm = true → z = -7 ∨ z = -8) ∧ (nm = false → ¬ (z = -7 ∨ z = -8))) (hpop : ∀ z k, ops z = true → g k → (sp = false ∨ isC k = false) → ndT k ≤ rkF z) (hcc : c ≤ c') : SP (chn sub ops) o c (fun k => g k ∧ ops k = false) sp nm := by
  intro r m H u hm h1 h2 hc ht
  obtain ⟨x, hx⟩ : ∃ x, x = mcF r m H u := ⟨_, rfl⟩
  have k0 := hs r m H u hm h1 h2 hc (by omega)
  rw [← hx] at k0 ⊢
  have key : ∀ (n : Nat) (q : RsT), (q.1 = true → q.2.1.length ≤ n) → ((q.1 = false → x = flR q.2.1) ∧ (q.1 = true → (sp = true → isC (hdK q.2.1) = true → x = flR q.2.1) ∧ ((sp = false ∨ isC (hdK q.2.1) = false) → g (hdK q.2.1) ∧ x = mcF q.2.1 0 H (u ++ q.2.2)))) →
      (((chF sub ops n q).1 = false → x = flR (chF sub ops n q).2.1) ∧ ((chF sub ops n q).1 = true → (sp = true → isC (hdK (chF sub ops n q).2.1) = true → x = flR (chF sub ops n q).2.1) ∧ ((sp = false ∨ isC (hdK (chF sub ops n q).2.1) = false) → (g (hdK (chF sub ops n q).2.1) ∧ ops (hdK (chF sub ops n q).2.1) = false) ∧ x = mcF (chF sub ops n q).2.1 0 H (u ++ (chF sub ops n q).2.2)))) := by
    intro n
    induction n with
    | zero =>
      intro q l1 l2
      refine ⟨l2.1, fun z => ⟨(l2.2 z).1, fun y => ⟨⟨((l2.2 z).2 y).1, ?_⟩, ((l2.2 z).2 y).2⟩⟩⟩
      have e : q.2.1 = [] := List.eq_nil_of_length_eq_zero (Nat.le_zero.mp (l1 z))
      show ops (hdK q.2.1) = false
      rw [e]
      exact o5
    | succ n ih =>
      intro q l1 l2
      unfold chF
      by_cases c0 : q.1 = true ∧ ops (hdK q.2.1) = true
      · rw [if_pos c0]
        obtain ⟨q1, q2⟩ := c0
        obtain ⟨t, r', e⟩ := hd_ne (r := q.2.1) (fun z => by rw [z, o5] at q2; cases q2)
        obtain ⟨z1, z2, z3, z4, z5, z6, z7, z8⟩ := hops _ q2
        obtain ⟨g1, x1⟩ := (l2.2 q1).2 (Or.inr z2)
        have ek : hdK q.2.1 = t.1 := by rw [e]; rfl
        have et : q.2.1.tail = r' := by rw [e]; rfl
        rw [ek] at z1 z2 z3 z4 z5 z6 z7 z8 q2 ⊢
        rw [et]
        have x2 : x = mcF r' (if t.1 = -7 ∨ t.1 = -8 then 2 else 1) (t.1 :: H) (u ++ q.2.2) := by
          rw [x1, e, mc_0, if_neg (by omega), if_neg (by omega), if_pos z1, if_neg (fun z => z6 z.1), un_id (by omega)]
        have md : ((if t.1 = -7 ∨ t.1 = -8 then 2 else 1) = 1 ∨ (if t.1 = -7 ∨ t.1 = -8 then 2 else 1) = 2) := by
          by_cases c9 : t.1 = -7 ∨ t.1 = -8
          · rw [if_pos c9]; exact Or.inr rfl
          · rw [if_neg c9]; exact Or.inl rfl
        have k1 := hs r' (if t.1 = -7 ∨ t.1 = -8 then 2 else 1) (t.1 :: H) (u ++ q.2.2) md (fun z => if_pos (z7 z)) (fun z => Or.inl (if_neg (z8 z))) (by rw [op_cn z1.1 z1.2]; exact hc) z4
        rw [← x2] at k1
        refine ih _ (fun z => ?_) ⟨k1.1, fun z => ⟨(k1.2 z).1, fun y => ?_⟩⟩
        · have l3 := l1 q1
          have l4 := (sh r').2.1 z
          rw [e] at l3
          have l5 : r'.length + 1 ≤ n + 1 := l3
          show (sub r').2.1.length ≤ n
          omega
        · obtain ⟨g2, x3⟩ := (k1.2 z).2 y
          refine ⟨g2, ?_⟩
          rw [x3, mc_pop (hpop _ _ q2 g2 y) z5]
          show _ = mcF (sub r').2.1 0 H (u ++ (q.2.2 ++ (sub r').2.2 ++ [t.1]))
          simp only [List.append_assoc]
      · rw [if_neg c0]
        refine ⟨l2.1, fun z => ⟨(l2.2 z).1, fun y => ⟨⟨((l2.2 z).2 y).1, ?_⟩, ((l2.2 z).2 y).2⟩⟩⟩
        have := fun w => c0 ⟨z, w⟩
        simpa using this
  exact key _ _ (fun z => Nat.le_of_lt ((sh r).2.1 z)) k0
def gS (k : Int) : Prop := (True ∧ isM k = false) ∧ isP k = false
theorem gS_nd {k : Int} (h : gS k) (h2 : isC k = false) : ndT k ≤ 2 := by
  obtain ⟨⟨_, h3⟩, h4⟩ := h
  have a1 := of_decide_eq_false h3
  have a2 := of_decide_eq_false h4
  have a3 := of_decide_eq_false h2
  unfold ndT nkF rkF
  repeat' split
  all_goals omega
theorem cmp_sim {n o : Nat} (hs : SP (sumL n) o 5 gS false false) : SP (cmpL n) o 4 gS true false := by
  intro r m H u hm h1 h2 hc ht
  obtain ⟨x, hx⟩ : ∃ x, x = mcF r m H u := ⟨_, rfl⟩
  have k0 := hs r m H u hm h1 h2 hc (by omega)
  rw [← hx] at k0 ⊢
  show ((chF (sumL n) isC 1 (sumL n r)).1 = false → _) ∧ ((chF (sumL n) isC 1 (sumL n r)).1 = true → _)
  show ((chF (sumL n) isC 1 (sumL n r)).1 = false → x = flR (chF (sumL n) isC 1 (sumL n r)).2.1) ∧ ((chF (sumL n) isC 1 (sumL n r)).1 = true → (true = true → isC (hdK (chF (sumL n) isC 1 (sumL n r)).2.1) = true → x = flR (chF (sumL n) isC 1 (sumL n r)).2.1) ∧ ((true = false ∨ isC (hdK (chF (sumL n) isC 1 (sumL n r)).2.1) = false) → gS (hdK (chF (sumL n) isC 1 (sumL n r)).2.1) ∧ x = mcF (chF (sumL n) isC 1 (sumL n r)).2.1 0 H (u ++ (chF (sumL n) isC 1 (sumL n r)).2.2)))
  obtain ⟨q, hq⟩ : ∃ q, q = sumL n r := ⟨_, rfl⟩
  rw [← hq] at k0 ⊢
  rw [show chF (sumL n) isC 1 q = (if q.1 = true ∧ isC (hdK q.2.1) = true then ((sumL n q.2.1.tail).1, (sumL n q.2.1.tail).2.1, q.2.2 ++ (sumL n q.2.1.tail).2.2 ++ [hdK q.2.1]) else q) from rfl]
  by_cases c0 : q.1 = true ∧ isC (hdK q.2.1) = true
  · rw [if_pos c0]
    obtain ⟨q1, q2⟩ := c0
    obtain ⟨t, r', e⟩ := hd_ne (r := q.2.1) (fun z => by rw [z] at q2; cases q2)
    obtain ⟨g1, x1⟩ := (k0.2 q1).2 (Or.inl rfl)
    have ek : hdK q.2.1 = t.1 := by rw [e]; rfl
    have et : q.2.1.tail = r' := by rw [e]; rfl
    rw [ek] at q2 ⊢
    rw [et]
    have q3 := of_decide_eq_true q2
    have r4 : rkF t.1 = 4 := by
      rcases q3 with h | h <;> rw [h] <;> rfl
    have n5 : nkF t.1 = 5 := by
      unfold nkF
      rw [if_pos r4]
    have x2 : x = mcF r' 1 (t.1 :: H) (u ++ q.2.2) := by
      rw [x1, e, mc_0, if_neg (by omega), if_neg (by omega), if_pos (by omega), un_id (k := 5) (by omega), if_neg (fun z => by have := z.2; dsimp only at this; omega), n5, un_id (by omega), if_neg (by omega)]
    have k1 := hs r' 1 (t.1 :: H) (u ++ q.2.2) (Or.inl rfl) (fun z => by cases z) (fun _ => Or.inl rfl) (by rw [op_cn (by omega) (by omega)]; exact hc) (by show rkF t.1 < 5; omega)
    rw [← x2] at k1
    refine ⟨k1.1, fun z => ?_⟩
    obtain ⟨g2, x3⟩ := (k1.2 z).2 (Or.inl rfl)
    refine ⟨fun _ y => ?_, fun y => ⟨g2, ?_⟩⟩
    · show x = flR (sumL n r').2.1
      have y : isC (hdK (sumL n r').2.1) = true := y
      obtain ⟨t2, r2, e2⟩ := hd_ne (r := (sumL n r').2.1) (fun z => by rw [z] at y; cases y)
      rw [e2] at y x3 ⊢
      have y2 : t2.1 = -9 ∨ t2.1 = -10 := of_decide_eq_true y
      have r5 : rkF t2.1 = 4 := by
        rcases y2 with h | h <;> rw [h] <;> rfl
      rw [x3, mc_0, if_neg (by omega), if_neg (by omega), if_pos (by omega), un_id (k := 5) (by show rkF t.1 < 5; omega), if_pos ⟨r5, r4⟩]
    · have y : isC (hdK (sumL n r').2.1) = false := y.resolve_left (by decide)
      have := gS_nd g2 y
      rw [x3, mc_pop (by omega) (by omega)]
      show _ = mcF (sumL n r').2.1 0 H (u ++ (q.2.2 ++ (sumL n r').2.2 ++ [t.1]))
      simp only [List.append_assoc]
  · rw [if_neg c0]
    refine ⟨k0.1, fun z => ⟨fun _ y => absurd ⟨z, y⟩ c0, fun _ => (k0.2 z).2 (Or.inl rfl)⟩⟩
def S1 (o : Nat) : Prop := ∀ (r : List Tok) (m : Nat) (H u : List Int), (m = 1 ∨ m = 2) → (m = 1 ∨ ¬ hdK r = -14) → o + opF H = 5 →
  ((oneL o r).1 = false → mcF r m H u = flR (oneL o r).2.1) ∧
  ((oneL o r).1 = true → mcF r m H u = mcF (oneL o r).2.1 0 (unF 7 H (u ++ (oneL o r).2.2)).1 (unF 7 H (u ++ (oneL o r).2.2)).2)
theorem S1_sp {o : Nat} (h : S1 o) : SP (oneL o) o 7 (fun _ => True) false false := by
  intro r m H u hm h1 h2 hc ht
  obtain ⟨k1, k2⟩ := h r m H u hm (h2 rfl) hc
  refine ⟨k1, fun z => ⟨fun y => (by cases y), fun _ => ⟨True.intro, ?_⟩⟩⟩
  rw [k2 z, un_id ht]
theorem S1_ter {o : Nat} (h : S1 o) : SP (terL o) o 6 (fun k => True ∧ isM k = false) false false :=
  ch_sim (S1_sp h) (Sh_lv o).1 rfl (fun z hz => by
    have e := of_decide_eq_true hz
    subst e
    decide) (fun z k hz _ _ => by
    have e := of_decide_eq_true hz
    subst e
    show ndT k ≤ 6
    unfold ndT nkF rkF
    repeat' split
    all_goals omega) (by decide)
theorem S1_sum {o : Nat} (h : S1 o) : SP (sumL o) o 5 gS false false :=
  ch_sim (S1_ter h) (Sh_ter o) rfl (fun z hz => by
    have e := of_decide_eq_true hz
    rcases e with e | e <;> subst e <;> decide) (fun z k hz hg _ => by
    have e := of_decide_eq_true hz
    have g2 := of_decide_eq_false hg.2
    have e5 : rkF z = 5 := by rcases e with e | e <;> subst e <;> rfl
    rw [e5]
    unfold ndT nkF rkF
    repeat' split
    all_goals omega) (by decide)
theorem not_and {o : Nat} (h : SP (notL o) o 4 gS true true) : SP (andL o) o 2 (fun k => gS k ∧ isA k = false) true true :=
  ch_sim h (Sh_lv o).2 rfl (fun z hz => by
    have e := of_decide_eq_true hz
    subst e
    decide) (fun z k hz hg hy => by
    have e := of_decide_eq_true hz
    subst e
    exact gS_nd hg (hy.resolve_left (by decide))) (by decide)
theorem not_orr {o : Nat} (h : SP (notL o) o 4 gS true true) : SP (orrL o) o 1 (fun k => (gS k ∧ isA k = false) ∧ isO k = false) true true :=
  ch_sim (not_and h) (Sh_and o) rfl (fun z hz => by
    have e := of_decide_eq_true hz
    subst e
    decide) (fun z k hz hg hy => by
    have e := of_decide_eq_true hz
    subst e
    have g2 := of_decide_eq_false hg.2
    obtain ⟨⟨⟨_, h3⟩, h4⟩, _⟩ := hg
    have a1 := of_decide_eq_false h3
    have a2 := of_decide_eq_false h4
    have a3 := of_decide_eq_false (hy.resolve_left (by decide))
    show ndT k ≤ 1
    unfold ndT nkF rkF
    repeat' split
    all_goals omega) (by decide)
/-- behind an E that is whole: what is no sign between -/
theorem orr_end {k : Int} (hg : (gS k ∧ isA k = false) ∧ isO k = false) (hc : isC k = false) : ¬ (-13 ≤ k ∧ k ≤ -7) := by
  obtain ⟨⟨⟨⟨_, h3⟩, h4⟩, h5⟩, h6⟩ := hg
  have a1 := of_decide_eq_false h3
  have a2 := of_decide_eq_false h4
  have a3 := of_decide_eq_false hc
  have a4 := of_decide_eq_false h5
  have a5 := of_decide_eq_false h6
  omega
theorem S1_0 : S1 0 := by
  intro r m H u hm h1 hc
  have h5 : opF H = 5 := by omega
  rw [oneL_0]
  cases r with
  | nil => exact ⟨fun _ => rfl, fun z => by cases z⟩
  | cons t r =>
    have ek : hdK (t :: r) = t.1 := rfl
    unfold oneF
    rw [mc_1 hm]
    rw [ek] at h1 ⊢
    by_cases c1 : -6 ≤ t.1 ∧ t.1 ≤ -1
    · rw [if_pos c1, if_pos c1]
      exact ⟨fun z => (by cases z), fun _ => rfl⟩
    rw [if_neg c1, if_neg c1]
    by_cases c2 : t.1 = 1
    · rw [if_pos c2, if_pos c2]
      exact ⟨fun z => (by cases z), fun _ => rfl⟩
    rw [if_neg c2, if_neg c2, if_pos rfl]
    refine ⟨fun _ => ?_, fun z => (by cases z)⟩
    show _ = flR (t :: r)
    rw [if_pos h5, if_pos h5, if_pos h5]
    repeat' split
    all_goals rfl
theorem S1_s {o : Nat} (h1 : S1 o) (h2 : SP (notL o) o 4 gS true true) : S1 (o + 1) := by
  intro r m H u hm hn hc
  have h5 : ¬ opF H = 5 := by omega
  rw [oneL_s]
  cases r with
  | nil => exact ⟨fun _ => rfl, fun z => by cases z⟩
  | cons t r =>
    have ek : hdK (t :: r) = t.1 := rfl
    unfold oneF
    rw [mc_1 hm]
    rw [ek] at hn ⊢
    by_cases c1 : -6 ≤ t.1 ∧ t.1 ≤ -1
    · rw [if_pos c1, if_pos c1]
      exact ⟨fun z => (by cases z), fun _ => rfl⟩
    rw [if_neg c1, if_neg c1]
    by_cases c2 : t.1 = 1
    · rw [if_pos c2, if_pos c2]
      exact ⟨fun z => (by cases z), fun _ => rfl⟩
    rw [if_neg c2, if_neg c2, if_neg (show ¬ true = false by decide), if_neg (show ¬ (t.1 = -14 ∧ m = 2) by omega)]
    by_cases c4 : t.1 = -12
    · rw [if_pos c4, if_pos c4, if_neg h5]
      obtain ⟨k1, k2⟩ := h1 r 1 (-15 :: H) u (Or.inl rfl) (Or.inl rfl) (by show o + (opF H + 1) = 5; omega)
      refine ⟨k1, fun z => ?_⟩
      show mcF r 1 (-15 :: H) u = mcF (oneL o r).2.1 0 (unF 7 H (u ++ ((oneL o r).2.2 ++ [-15]))).1 (unF 7 H (u ++ ((oneL o r).2.2 ++ [-15]))).2
      rw [k2 z, un_push (by decide), List.append_assoc]
    rw [if_neg c4, if_neg c4]
    by_cases c5 : t.1 = 2
    · rw [if_pos c5, if_pos c5, if_neg h5]
      show ((if (orrL o r).1 = true ∧ hdK (orrL o r).2.1 = 3 then (true, (orrL o r).2.1.tail, (orrL o r).2.2) else (false, (orrL o r).2.1, (orrL o r).2.2) : RsT).1 = false → mcF r 2 (2 :: H) u = flR (if (orrL o r).1 = true ∧ hdK (orrL o r).2.1 = 3 then (true, (orrL o r).2.1.tail, (orrL o r).2.2) else (false, (orrL o r).2.1, (orrL o r).2.2) : RsT).2.1) ∧ ((if (orrL o r).1 = true ∧ hdK (orrL o r).2.1 = 3 then (true, (orrL o r).2.1.tail, (orrL o r).2.2) else (false, (orrL o r).2.1, (orrL o r).2.2) : RsT).1 = true → mcF r 2 (2 :: H) u = mcF (if (orrL o r).1 = true ∧ hdK (orrL o r).2.1 = 3 then (true, (orrL o r).2.1.tail, (orrL o r).2.2) else (false, (orrL o r).2.1, (orrL o r).2.2) : RsT).2.1 0 (unF 7 H (u ++ (if (orrL o r).1 = true ∧ hdK (orrL o r).2.1 = 3 then (true, (orrL o r).2.1.tail, (orrL o r).2.2) else (false, (orrL o r).2.1, (orrL o r).2.2) : RsT).2.2)).1 (unF 7 H (u ++ (if (orrL o r).1 = true ∧ hdK (orrL o r).2.1 = 3 then (true, (orrL o r).2.1.tail, (orrL o r).2.2) else (false, (orrL o r).2.1, (orrL o r).2.2) : RsT).2.2)).2)
      obtain ⟨k1, k2⟩ := not_orr h2 r 2 (2 :: H) u (Or.inr rfl) (fun _ => rfl) (fun z => by cases z) (by show o + (opF H + 1) = 5; omega) (by show 0 < 1; decide)
      by_cases c6 : (orrL o r).1 = true ∧ hdK (orrL o r).2.1 = 3
      · rw [if_pos c6]
        refine ⟨fun z => (by cases z), fun _ => ?_⟩
        obtain ⟨g2, x2⟩ := (k2 c6.1).2 (Or.inr (by rw [c6.2]; rfl))
        obtain ⟨t2, r2, e2⟩ := hd_ne (r := (orrL o r).2.1) (by rw [c6.2]; decide)
        have e3 : t2.1 = 3 := by
          have := c6.2
          rw [e2] at this
          exact this
        rw [x2, e2, mc_0, if_neg (by omega), if_pos e3, un_id (k := 1) (by show 0 < 1; decide), if_neg (fun z => by cases z)]
        rfl
      · rw [if_neg c6]
        refine ⟨fun _ => ?_, fun z => (by cases z)⟩
        show mcF r 2 (2 :: H) u = flR (orrL o r).2.1
        by_cases c7 : (orrL o r).1 = true
        · by_cases c8 : isC (hdK (orrL o r).2.1) = true
          · exact (k2 c7).1 rfl c8
          · have c9 : isC (hdK (orrL o r).2.1) = false := by simpa using c8
            obtain ⟨g2, x2⟩ := (k2 c7).2 (Or.inr c9)
            have e9 := orr_end g2 c9
            rw [x2]
            cases er : (orrL o r).2.1 with
            | nil => rfl
            | cons t2 r2 =>
              rw [er] at c6 e9
              have e9 : ¬ (-13 ≤ t2.1 ∧ t2.1 ≤ -7) := e9
              have c3 : ¬ t2.1 = 3 := fun z => c6 ⟨c7, z⟩
              have nn : ¬ ((2 :: H, u ++ (orrL o r).2.2) : List Int × List Int).1 = [] := fun z => by cases z
              rw [mc_0, if_neg c3, if_neg e9, un_id (k := 1) (by show 0 < 1; decide), if_neg nn]
              split <;> rfl
        · have c9 : (orrL o r).1 = false := by simpa using c7
          exact k1 c9
    · rw [if_neg c5, if_neg c5]
      exact ⟨fun _ => rfl, fun z => by cases z⟩
theorem not_sim {o : Nat} {h : Bool} {nt : List Tok → RsT} (hc : SP (cmpL o) o 4 gS true false) (hh : h = true → ∃ n, o = n + 1 ∧ SP nt n 4 gS true true) (hf : h = false → o = 0) : SP (notF h nt (cmpL o)) o 4 gS true true := by
  intro r m H u hm h1 h2 hcn ht
  have m2 := h1 rfl
  subst m2
  unfold notF
  by_cases c1 : hdK r = -14
  · rw [if_pos c1]
    obtain ⟨t, r', e⟩ := hd_ne (r := r) (by omega)
    subst e
    have c1 : t.1 = -14 := c1
    have n1 : ¬ (-6 ≤ t.1 ∧ t.1 ≤ -1) := by omega
    have n2 : ¬ t.1 = 1 := by omega
    have n3 : t.1 = -14 ∧ 2 = 2 := ⟨c1, rfl⟩
    have em : mcF (t :: r') 2 H u = if opF H = 5 then flR (t :: r') else mcF r' 2 (-14 :: H) u := by
      rw [mc_1 (Or.inr rfl), if_neg n1, if_neg n2, if_pos n3]
    rw [em]
    by_cases c3 : h = false
    · have o0 := hf c3
      have h5 : opF H = 5 := by omega
      rw [if_pos c3, if_pos h5]
      exact ⟨fun _ => rfl, fun z => by cases z⟩
    rw [if_neg c3]
    have c4 : h = true := by simpa using c3
    obtain ⟨n, en, hn⟩ := hh c4
    have h5 : ¬ opF H = 5 := by omega
    rw [if_neg h5]
    obtain ⟨k1, k2⟩ := hn r' 2 (-14 :: H) u (Or.inr rfl) (fun _ => rfl) (fun z => by cases z) (by show n + (opF H + 1) = 5; omega) (by show 3 < 4; decide)
    refine ⟨k1, fun z => ⟨(k2 z).1, fun y => ?_⟩⟩
    obtain ⟨g2, x2⟩ := (k2 z).2 y
    have y : isC (hdK (nt r').2.1) = false := y.resolve_left (by decide)
    refine ⟨g2, ?_⟩
    have n2 := gS_nd g2 y
    rw [x2, mc_pop (by show _ ≤ 3; omega) (by decide), List.append_assoc]
    rfl
  · rw [if_neg c1]
    exact hc r 2 H u (Or.inr rfl) (fun z => by cases z) (fun _ => Or.inr c1) hcn ht
theorem lv_sim : ∀ o, S1 o ∧ SP (notL o) o 4 gS true true := by
  intro o
  induction o with
  | zero =>
    refine ⟨S1_0, ?_⟩
    rw [notL_0]
    exact not_sim (cmp_sim (S1_sum S1_0)) (fun z => by cases z) (fun _ => rfl)
  | succ o ih =>
    have h1 := S1_s ih.1 ih.2
    refine ⟨h1, ?_⟩
    rw [notL_s]
    exact not_sim (cmp_sim (S1_sum h1)) (fun _ => ⟨o, rfl, ih.2⟩) (fun z => by cases z)
/-! whole texts: three parts -/
abbrev TxT : Type := Bool × List Tok × List (List Int)
def txF : Nat → Int → List Tok → TxT
  | 0, _, r => (decide (hdK r = 5), r, [])
  | n + 1, p, r => if hdK r = 10 + p then (if (orrL 5 r.tail).1 = true ∧ hdK (orrL 5 r.tail).2.1 = 4 then ((txF n (p + 1) (orrL 5 r.tail).2.1.tail).1, (txF n (p + 1) (orrL 5 r.tail).2.1.tail).2.1, (orrL 5 r.tail).2.2 :: (txF n (p + 1) (orrL 5 r.tail).2.1.tail).2.2) else (false, (orrL 5 r.tail).2.1, [])) else (false, r, [])
def mtF : Nat → Int → List Tok → TxT
  | 0, _, r => (decide (hdK r = 5), r, [])
  | n + 1, p, r => if hdK r = 10 + p then (if (mcF r.tail 2 [] []).1 = true then ((mtF n (p + 1) (mcF r.tail 2 [] []).2.1).1, (mtF n (p + 1) (mcF r.tail 2 [] []).2.1).2.1, (mcF r.tail 2 [] []).2.2 :: (mtF n (p + 1) (mcF r.tail 2 [] []).2.1).2.2) else (false, (mcF r.tail 2 [] []).2.1, [])) else (false, r, [])
theorem mc_orr (r : List Tok) : mcF r 2 [] [] = if (orrL 5 r).1 = true ∧ hdK (orrL 5 r).2.1 = 4 then (true, (orrL 5 r).2.1.tail, (orrL 5 r).2.2) else flR (orrL 5 r).2.1 := by
  obtain ⟨k1, k2⟩ := not_orr (lv_sim 5).2 r 2 [] [] (Or.inr rfl) (fun _ => rfl) (fun z => by cases z) rfl (by decide)
  by_cases c7 : (orrL 5 r).1 = true
  · by_cases c8 : isC (hdK (orrL 5 r).2.1) = true
    · rw [if_neg (fun z => by rw [z.2] at c8; cases c8)]
      exact (k2 c7).1 rfl c8
    · have c9 : isC (hdK (orrL 5 r).2.1) = false := by simpa using c8
      obtain ⟨g2, x2⟩ := (k2 c7).2 (Or.inr c9)
      have e9 := orr_end g2 c9
      rw [x2]
      cases er : (orrL 5 r).2.1 with
      | nil => rw [if_neg (fun z => absurd z.2 (by decide))]; rfl
      | cons t2 r2 =>
        rw [er] at e9
        have e9 : ¬ (-13 ≤ t2.1 ∧ t2.1 ≤ -7) := e9
        rw [mc_0, if_neg e9]
        by_cases c4 : t2.1 = 4
        · rw [if_pos c4, if_pos (show (orrL 5 r).1 = true ∧ hdK (t2 :: r2) = 4 from ⟨c7, c4⟩)]
          exact if_pos rfl
        · rw [if_neg c4, if_neg (show ¬ ((orrL 5 r).1 = true ∧ hdK (t2 :: r2) = 4) from fun z => c4 z.2)]
          by_cases c3 : t2.1 = 3
          · rw [if_pos c3]
            exact if_pos rfl
          · rw [if_neg c3]
  · have c9 : (orrL 5 r).1 = false := by simpa using c7
    rw [if_neg (fun z => c7 z.1)]
    exact k1 c9
theorem tx_mt : ∀ (n : Nat) (p : Int) (r : List Tok), txF n p r = mtF n p r := by
  intro n
  induction n with
  | zero => intro p r; rfl
  | succ n ih =>
    intro p r
    unfold txF mtF
    rw [mc_orr]
    by_cases c1 : hdK r = 10 + p
    · rw [if_pos c1, if_pos c1]
      by_cases c2 : (orrL 5 r.tail).1 = true ∧ hdK (orrL 5 r.tail).2.1 = 4
      · rw [if_pos c2, if_pos c2, if_pos rfl, ih]
      · rw [if_neg c2, if_neg c2, if_neg (show ¬ (flR (orrL 5 r.tail).2.1).1 = true by intro z; cases z)]
        rfl
    · rw [if_neg c1, if_neg c1]
