/-! behind both constructors -/
def g_0 (j : Nat) : Int := if j = 0 then 19 else 0
def T_0 (l : List (List Int)) : Nat → Nat → List Int := adT (fun _ _ => []) 0 (fun p => l.getD p [])
theorem T_00 (l : List (List Int)) : T_0 l 0 = fun p => l.getD p [] := by
  show (if (0 : Nat) = 0 then (fun p => l.getD p []) else (fun _ => [])) = _
  exact if_pos rfl
def C1l (l : List (List Int)) (w : ai_H) : Prop := AG w ∧ mN w = 47 ∧ LW w 1 ∧ TXa w 0 44 45 46 (flF l).length (fun p => l.getD p []) ∧ (mI w 0 5 = jI 0 ∧ mI w 1 1 = jI 0) ∧ (∀ p : Nat, p = 8 ∨ p = 14 ∨ p = 20 → mI w p 1 = jI 19 ∧ mI w p 2 = jI 0 ∧ mI w p 3 = jI 0 ∧ mI w p 4 = jI 0 ∧ mI w p 5 = jI 0 ∧ mI w p 6 = jI 0) ∧ ∀ s : Nat, s < 4 → mI w (36 + 2 * s) 0 = jI (-1) ∧ mI w (36 + 2 * s) 1 = jI 0 ∧ ∀ i, mI w (37 + 2 * s) i = jI 0
theorem C1_l {w : ai_H} (h : C1 w) : C1l x1T.2.2 w := by
  unfold C1 at h
  unfold C1l
  exact h
def S_0 (_ i : Nat) : Int := if i = 100 then -1 else 0
theorem g_0s (j : Nat) (h : ¬ j = 0) : g_0 j = 0 := if_neg h
theorem gb_0 : GB g_0 := by
  have h0 : g_0 0 = 19 := rfl
  have h1 := g_0s 1 (by decide)
  have h2 := g_0s 2 (by decide)
  have h3 := g_0s 3 (by decide)
  have h4 := g_0s 4 (by decide)
  refine ⟨by rw [h0, h1, h2, h3, h4]; omega, fun e he => ?_⟩
  rw [h3] at he
  exact absurd he (by omega)
theorem sb_0 (T : Nat → Nat → List Int) : SB g_0 (fun _ => 0) 0 (fun _ _ => 0) S_0 0 tp1 1 T := by
  have h2 := g_0s 2 (by decide)
  have h3 := g_0s 3 (by decide)
  have h4 := g_0s 4 (by decide)
  have h5 := g_0s 5 (by decide)
  have e01 : ¬ (0 : Int) = 1 := by decide
  refine ⟨gb_0, by rw [h2, h5]; omega, fun e he => ?_, by rw [h4]; omega, Or.inl rfl, fun z => absurd z e01, fun z => absurd z e01, fun z => absurd z e01, fun k hk => ?_, fun s hs => ?_, fun s i _ hi => ?_, ⟨Int.le_refl 0, by omega⟩, fun i hi => absurd hi (by omega), ⟨Int.le_refl 1, by omega⟩⟩
  · rw [h3] at he
    exact absurd he (by omega)
  · rw [h5] at hk
    exact absurd hk (by omega)
  · rw [show S_0 s 100 = -1 from if_pos rfl, show S_0 s 101 = 0 from if_neg (by decide)]
    omega
  · rw [show S_0 s i = 0 from if_neg (by omega)]
    omega
theorem li_0 {l : List (List Int)} {w1 w6 : ai_H} (c1 : C1l l w1) (n6 : mN w6 = 66) (old : ∀ i, i < 47 → mS w6 i = mS w1 i ∧ ∀ k, mI w6 i k = mI w1 i k ∧ mP w6 i k = mP w1 i k) (mg : MG w6) (v47 : ∀ k, k < 28 → mI w6 47 k = if k = 4 then jI 19 else if k = 13 then jI 1 else jI 0) (v57 : ∀ i : Nat, i < 4 → mI w6 57 i = jI (-1)) (v58 : ∀ i, mI w6 58 i = jI 0) (v59 : ∀ i, mI w6 59 i = jI 0) (wd : ∀ i, i < 96 → mI w6 61 i = jI (wdF i)) (tm : TM w6 1 (T_0 l)) : LI w6 := by
  obtain ⟨ag, n1, lw, tx, ⟨z1, z2⟩, hp, hs⟩ := c1
  have fs : ∀ i, i < 47 → mS w6 i = mS w1 i := fun i hi => (old i hi).1
  have fi : ∀ i k, i < 47 → mI w6 i k = mI w1 i k := fun i k hi => ((old i hi).2 k).1
  have fp : ∀ i k, i < 47 → mP w6 i k = mP w1 i k := fun i k hi => ((old i hi).2 k).2
  have ag6 : AG w6 := by
    have sh := ag._sh
    have f0 : (∀ s : Nat, s < 4 → mP w1 33 s = some (36 + 2 * s) ∧ mS w1 (36 + 2 * s) = (1, 4) ∧ mP w1 (36 + 2 * s) 2 = some (37 + 2 * s) ∧ mS w1 (37 + 2 * s) = (2, 40)) ↔ True := iff_true_intro sh
    have f1 : (∀ s : Nat, s < 4 → mP w6 33 s = some (36 + 2 * s) ∧ mS w6 (36 + 2 * s) = (1, 4) ∧ mP w6 (36 + 2 * s) 2 = some (37 + 2 * s) ∧ mS w6 (37 + 2 * s) = (2, 40)) ↔ True := iff_true_intro (fun s h => by
      rw [fp _ _ (by omega), fs _ (by omega), fp _ _ (by omega), fs _ (by omega)]
      exact sh s h)
    unfold AG at ag ⊢
    rw [f1]
    rw [f0] at ag
    simp (disch := omega) only [fs, fp]
    exact ag
  have vv : ∀ p k : Nat, ∀ z : Int, p < 47 → mI w1 p k = jI z → -100 ≤ z → z ≤ 100 → vI w6 p k = z := fun p k z h1 h2 h3 h4 => by
    unfold vI
    rw [fi p k h1, h2, jt (by omega) (by omega)]
  have po : ∀ p : Nat, (p = 8 ∨ p = 14 ∨ p = 20) → PG w6 p → PO w6 p g_0 := fun p hpp pg => by
    have h := hp p hpp
    have hlt : p < 47 := by omega
    refine ⟨pg, gb_0, ?_, fun e he => ?_⟩
    · rw [vv p 1 19 hlt h.1 (by decide) (by decide), vv p 2 0 hlt h.2.1 (by decide) (by decide), vv p 3 0 hlt h.2.2.1 (by decide) (by decide), vv p 5 0 hlt h.2.2.2.2.1 (by decide) (by decide), vv p 6 0 hlt h.2.2.2.2.2 (by decide) (by decide)]
      exact ⟨rfl, (g_0s 1 (by decide)).symm, (g_0s 2 (by decide)).symm, (g_0s 3 (by decide)).symm, (g_0s 4 (by decide)).symm⟩
    · rw [g_0s 3 (by decide)] at he
      omega
  have e01 : ¬ (0 : Int) = 1 := by decide
  have no : ∀ {e : Nat}, (e : Int) < g_0 3 → False := fun {e} z => by
    rw [g_0s 3 (by decide)] at z
    omega
  have no5 : ∀ {e : Nat}, (e : Int) < g_0 5 → False := fun {e} z => by
    rw [g_0s 5 (by decide)] at z
    omega
  have lw6 : LW w6 1 := by
    obtain ⟨l1, l2, l3, l4, l5, l6, l7⟩ := lw
    refine ⟨?_, ?_, ?_, ?_, ?_, ?_, l7⟩
    · rw [fs _ (by omega)]; exact l1
    · rw [fp _ _ (by omega)]; exact l2
    · rw [fp _ _ (by omega)]; exact l3
    · rw [fs _ (by omega)]; exact l4
    · rw [fs _ (by omega)]; exact l5
    · unfold vI at l6 ⊢
      rw [fi _ _ (by omega)]
      exact l6
  refine LI.mk (sb_0 (T_0 l)) ⟨ag6, po 8 (Or.inl rfl) ag6.n, ?_, fun e he => (no he).elim, ?_, fun z => absurd z e01, fun z => absurd z e01, fun z => absurd z e01, fun k hk => (no5 hk).elim, fun k hk => (no5 hk).elim, fun k hk => (no5 hk).elim, fun k hk => (no5 hk).elim, fun k hk => (no5 hk).elim, fun k hk => (no5 hk).elim, fun s h => ?_, fun s h => ?_, fun s i h hi => ?_, ?_, fun i hi => by omega, ⟨lw6, fun t ht => ?_⟩, fun t ht a ha => ?_, ?_⟩ ⟨⟨mg, gb_0, ?_, fun e he => (no he).elim⟩, ?_, fun e he => (no he).elim, ?_, fun z => absurd z e01, fun z => absurd z e01, fun z => absurd z e01, fun k c hk => (no5 hk).elim, fun s h => ?_, fun s h => ?_, fun s i h hi => ?_, ?_, fun i hi => by omega, tm, ?_, wd⟩
  · rw [fi _ _ (by omega), g_0s 5 (by decide)]
    exact (hp 8 (Or.inl rfl)).2.2.2.1
  · rw [fi _ _ (by omega)]
    exact z1
  · rw [fi _ _ (by omega)]
    exact (hs s h).1
  · rw [fi _ _ (by omega)]
    exact (hs s h).2.1
  · rw [fi _ _ (by omega)]
    unfold S_0
    rw [if_neg (by omega)]
    exact (hs s h).2.2 i
  · rw [fi _ _ (by omega)]
    exact z2
  · have e0 : t = 0 := by omega
    subst e0
    obtain ⟨q1, q2, q3, q4, q5, q6, q7, q8⟩ := tx
    have vS : ∀ k, vI w6 45 k = vI w1 45 k := fun k => by
      unfold vI
      rw [fi _ _ (by omega)]
    have vT : ∀ k, vI w6 46 k = vI w1 46 k := fun k => by
      unfold vI
      rw [fi _ _ (by omega)]
    rw [T_00]
    refine ⟨44, 45, 46, (flF l).length, ?_, ?_, ?_, ?_, ?_, ?_, q7, fun p h3 => ?_⟩
    · rw [fp _ _ (by omega)]; exact q1
    · rw [fs _ (by omega)]; exact q2
    · rw [fp _ _ (by omega)]; exact q3
    · rw [fp _ _ (by omega)]; exact q4
    · rw [fs _ (by omega)]; exact q5
    · rw [fs _ (by omega)]; exact q6
    · have := q8 p h3
      unfold TXs at this ⊢
      simp only [vS, vT]
      exact this
  · have e0 : t = 0 := by omega
    subst e0
    rw [fp _ _ (by omega), tx.1] at ha
    cases ha
    refine ⟨Or.inl ⟨by omega, by omega⟩, fun s z => ?_, fun s z => ?_⟩
    · rw [fp _ _ (by omega), tx.2.2.1] at z
      cases z
      exact Or.inl ⟨by omega, by omega⟩
    · rw [fp _ _ (by omega), tx.2.2.2.1] at z
      cases z
      exact Or.inl ⟨by omega, by omega⟩
  · rw [n6]
    rfl
  · rw [v47 0 (by omega), v47 4 (by omega), v47 5 (by omega), v47 6 (by omega), v47 14 (by omega), g_0s 1 (by decide), g_0s 2 (by decide), g_0s 3 (by decide), g_0s 4 (by decide)]
    exact ⟨rfl, rfl, rfl, rfl, rfl⟩
  · rw [v47 7 (by omega), g_0s 5 (by decide)]
    rfl
  · rw [v47 15 (by omega)]
    rfl
  · rw [v57 s h]
    rfl
  · rw [v58 s]
    rfl
  · rw [v59]
    unfold S_0
    rw [if_neg (by omega)]
  · rw [v47 10 (by omega)]
    rfl
  · rw [v47 13 (by omega)]
    rfl
theorem n_init {d : Nat} {w1 : ai_H} {Q : Option Value → ai_H → Prop} (c1 : C1 w1) (hQ : ∀ w', LI w' → Q none w') : Cl (d + 20) mX9_init [.ref 47] (mnew w1 (1, 7)) Q := by
  have n1 := c1.2.1
  rw [eX9_init]
  refine m_a (d := d + 10) (by rw [mN_mnew, n1]) (by rw [mS_mnew, n1, if_pos rfl]) (fun k => by rw [mI_mnew, n1, if_pos rfl]; rfl) (fun w2 d1 => ?_)
  refine m_b (d := d + 10) d1 (fun w3 d2 => ?_)
  obtain ⟨n3, old, mg, v47, v57, v58, v59, v60, v61⟩ := d2
  refine ml_loop (d := d + 10) (w0 := w3) 61 0 w3 rfl mg (Or.inr ⟨Ch.refl w3, fun j hj => absurd hj (Nat.not_lt_zero j)⟩) v60 (Ch.refl w3) (fun j hj => absurd hj (Nat.not_lt_zero j)) (fun w4 a4 x4 t4 => ?_)
  have hm := mg.eq2 x4.1
  simp (disch := first | omega | assumption | exact gC_d rfl | exact gR_d rfl) only [sX9_init_1128, sX9_init_1129, sX9_init_1131, sX9_init_1134, sX9_init_1135, hm.s, gO, gN', mc_m, mI_mnew, mP_mnew, mS_mnew, mN_mnew, mI_msI, mI_msP, mI_msA, mP_msI, mP_msP, mP_msA, mS_msI, mS_msP, mS_msA, mN_msI, mN_msP, mN_msA, Option.toList_some, Option.toList_none, List.cons_append, List.nil_append, ai_rf_s, ai_rf_n, ai_kl_i, ai_kl_r, ai_kl_n, b2_0, b2_1, if_true, if_false, and_true, true_and, or_false, false_or, or_true, true_or, and_false, false_and, not_true_eq_false, not_false_eq_true, seval, jN, jI_add, jI_sub, jI_mul, jI_neg, jj_lt, jj_le, jj_eq, jj_div, jj_rem, jl_cl, b2_j0, b2_j1, show (0 : Int32) = jI 0 from rfl, show (1 : Int32) = jI 1 from rfl, show (2 : Int32) = jI 2 from rfl, show (3 : Int32) = jI 3 from rfl, show (4 : Int32) = jI 4 from rfl, show (5 : Int32) = jI 5 from rfl, show (6 : Int32) = jI 6 from rfl, show (7 : Int32) = jI 7 from rfl, show (8 : Int32) = jI 8 from rfl, show (9 : Int32) = jI 9 from rfl, show (10 : Int32) = jI 10 from rfl, show (11 : Int32) = jI 11 from rfl, show (12 : Int32) = jI 12 from rfl, show (13 : Int32) = jI 13 from rfl, show (14 : Int32) = jI 14 from rfl, show (15 : Int32) = jI 15 from rfl, show (16 : Int32) = jI 16 from rfl, show (17 : Int32) = jI 17 from rfl, show (18 : Int32) = jI 18 from rfl, show (19 : Int32) = jI 19 from rfl, show (20 : Int32) = jI 20 from rfl, show (21 : Int32) = jI 21 from rfl, show (22 : Int32) = jI 22 from rfl, show (23 : Int32) = jI 23 from rfl, show (24 : Int32) = jI 24 from rfl, show (25 : Int32) = jI 25 from rfl, show (26 : Int32) = jI 26 from rfl, show (27 : Int32) = jI 27 from rfl, show (28 : Int32) = jI 28 from rfl, show (29 : Int32) = jI 29 from rfl, show (30 : Int32) = jI 30 from rfl, show (31 : Int32) = jI 31 from rfl, show (32 : Int32) = jI 32 from rfl, show (33 : Int32) = jI 33 from rfl, show (34 : Int32) = jI 34 from rfl, show (35 : Int32) = jI 35 from rfl, show (36 : Int32) = jI 36 from rfl, show (37 : Int32) = jI 37 from rfl, show (38 : Int32) = jI 38 from rfl, show (39 : Int32) = jI 39 from rfl, show (40 : Int32) = jI 40 from rfl, show (41 : Int32) = jI 41 from rfl, show (42 : Int32) = jI 42 from rfl, show (43 : Int32) = jI 43 from rfl, show (44 : Int32) = jI 44 from rfl, show (45 : Int32) = jI 45 from rfl, show (46 : Int32) = jI 46 from rfl, show (47 : Int32) = jI 47 from rfl, show (48 : Int32) = jI 48 from rfl, show (49 : Int32) = jI 49 from rfl, show (50 : Int32) = jI 50 from rfl, show (51 : Int32) = jI 51 from rfl, show (52 : Int32) = jI 52 from rfl, show (53 : Int32) = jI 53 from rfl, show (54 : Int32) = jI 54 from rfl, show (55 : Int32) = jI 55 from rfl, show (56 : Int32) = jI 56 from rfl, show (57 : Int32) = jI 57 from rfl, show (58 : Int32) = jI 58 from rfl, show (59 : Int32) = jI 59 from rfl, show (60 : Int32) = jI 60 from rfl, show (61 : Int32) = jI 61 from rfl, show (62 : Int32) = jI 62 from rfl, show (63 : Int32) = jI 63 from rfl, show (64 : Int32) = jI 64 from rfl, show (65 : Int32) = jI 65 from rfl, show (66 : Int32) = jI 66 from rfl, show (67 : Int32) = jI 67 from rfl, show (68 : Int32) = jI 68 from rfl, show (69 : Int32) = jI 69 from rfl, show (70 : Int32) = jI 70 from rfl, show (71 : Int32) = jI 71 from rfl, show (72 : Int32) = jI 72 from rfl, show (73 : Int32) = jI 73 from rfl, show (74 : Int32) = jI 74 from rfl, show (75 : Int32) = jI 75 from rfl, show (76 : Int32) = jI 76 from rfl, show (77 : Int32) = jI 77 from rfl, show (78 : Int32) = jI 78 from rfl, show (79 : Int32) = jI 79 from rfl, show (80 : Int32) = jI 80 from rfl, show (81 : Int32) = jI 81 from rfl, show (82 : Int32) = jI 82 from rfl, show (83 : Int32) = jI 83 from rfl, show (84 : Int32) = jI 84 from rfl, show (85 : Int32) = jI 85 from rfl, show (86 : Int32) = jI 86 from rfl, show (87 : Int32) = jI 87 from rfl, show (88 : Int32) = jI 88 from rfl, show (89 : Int32) = jI 89 from rfl, show (90 : Int32) = jI 90 from rfl, show (91 : Int32) = jI 91 from rfl, show (92 : Int32) = jI 92 from rfl, show (93 : Int32) = jI 93 from rfl, show (94 : Int32) = jI 94 from rfl, show (95 : Int32) = jI 95 from rfl, show (96 : Int32) = jI 96 from rfl, show (97 : Int32) = jI 97 from rfl, show (99 : Int32) = jI 99 from rfl, show (100 : Int32) = jI 100 from rfl, show (101 : Int32) = jI 101 from rfl, show (102 : Int32) = jI 102 from rfl, show (103 : Int32) = jI 103 from rfl, show (104 : Int32) = jI 104 from rfl, show (105 : Int32) = jI 105 from rfl, show (107 : Int32) = jI 107 from rfl, show (108 : Int32) = jI 108 from rfl, show (109 : Int32) = jI 109 from rfl, show (110 : Int32) = jI 110 from rfl, show (111 : Int32) = jI 111 from rfl, show (112 : Int32) = jI 112 from rfl, show (114 : Int32) = jI 114 from rfl, show (115 : Int32) = jI 115 from rfl, show (116 : Int32) = jI 116 from rfl, show (117 : Int32) = jI 117 from rfl, show (119 : Int32) = jI 119 from rfl, show (122 : Int32) = jI 122 from rfl, show (160 : Int32) = jI 160 from rfl, show (200 : Int32) = jI 200 from rfl, show (255 : Int32) = jI 255 from rfl, show (360 : Int32) = jI 360 from rfl, show (1000 : Int32) = jI 1000 from rfl, show (1200 : Int32) = jI 1200 from rfl, show (4050 : Int32) = jI 4050 from rfl, show (99999 : Int32) = jI 99999 from rfl, show (100000 : Int32) = jI 100000 from rfl, Decidable.not_not]
  have x5 : Ch (fun i k => i = 52 ∨ (i = 47 ∧ k = 10)) w3 (msI w4 47 10 (jI 61)) := (x4.mono (fun i k z => Or.inl z)).ms (Or.inr ⟨rfl, rfl⟩)
  have md : MD (msI w4 47 10 (jI 61)) 61 tp1 0 := by
    refine ⟨mg.eq2 x5.1, ?_, ?_, fun i hi => ?_, fun i hi => ?_, ⟨by decide, fun i hi => (l1_b hi).2⟩, by decide⟩
    · rw [mI_msI, if_pos ⟨rfl, rfl⟩]
      rfl
    · rw [x5.i (by omega), v47]
      rfl
    · rw [mI_msI, if_neg (by omega)]
      exact t4 i hi
    · rw [x5.i (by omega)]
      exact v61 i hi
  refine n_text (d := d + 14) md (x := x1T) (by unfold x1T; exact tx_mt 3 0 _) (fun _ w6 x6 k10 k13 cd st st3 lb => ?_) (fun z => absurd x1T_ok z)
  simp (disch := first | omega | assumption | exact gC_d rfl | exact gR_d rfl) only [sX9_init_1138, sX9_init_1139, mI_msI, mI_msP, mI_msA, mP_msI, mP_msP, mP_msA, mS_msI, mS_msP, mS_msA, mN_msI, mN_msP, mN_msA, Option.toList_some, Option.toList_none, List.cons_append, List.nil_append, ai_rf_s, ai_rf_n, ai_kl_i, ai_kl_r, ai_kl_n, b2_0, b2_1, if_true, if_false, and_true, true_and, or_false, false_or, or_true, true_or, and_false, false_and, not_true_eq_false, not_false_eq_true, seval]
  have l3 : x1T.2.2.length = 3 := tx_len 3 0 _ x1T_ok
  have ok := x1T_okP
  have c1l := C1_l c1
  generalize x1T.2.2 = l at cd st st3 lb l3 ok c1l
  have xx : Ch (fun i k => i = 52 ∨ (i = 47 ∧ k = 10) ∨ yZ 0 i k) w3 w6 := (x5.mono (fun i k z => z.elim Or.inl (fun y => Or.inr (Or.inl y)))).trans (x6.mono (fun i k z => Or.inr (Or.inr z)))
  refine hQ w6 (li_0 c1l (by rw [xx.n]; exact n3) (fun i hi => ⟨?_, fun k => ⟨?_, ?_⟩⟩) (mg.eq2 xx.1) (fun k hk => ?_) (fun i hi => ?_) (fun i => ?_) (fun i => ?_) (fun i hi => ?_) (fun t ht p hp => ?_))
  · rw [xx.s, (old i hi).1, mS_mnew, n1, if_neg (by omega)]
  · rw [xx.i (by unfold yZ yT; omega), ((old i hi).2 k).1, mI_mnew, n1, if_neg (by omega)]
  · rw [xx.p, ((old i hi).2 k).2, mP_mnew, n1, if_neg (by omega)]
  · by_cases c10 : k = 10
    · subst c10
      rw [k10]
      rfl
    · by_cases c13 : k = 13
      · subst c13
        rw [k13]
        rfl
      · rw [xx.i (by unfold yZ yT; omega), v47, if_neg c13]
  · rw [xx.i (by unfold yZ yT; omega)]; exact v57 i hi
  · rw [xx.i (by unfold yZ yT; omega)]; exact v58 i
  · rw [xx.i (by unfold yZ yT; omega)]; exact v59 i
  · rw [xx.i (by unfold yZ yT; omega)]; exact v61 i hi
  · have e0 : t = 0 := by omega
    subst e0
    rw [T_00]
    have sp := ct_split l p (by omega)
    have tk := ct_take l p (by omega)
    have ln : (ctF l).length = (ctF (l.take p)).length + ((l.getD p []).length + (ctF (l.drop (p + 1))).length) := by
      conv => lhs; rw [sp]
      rw [List.length_append, List.length_append]
    refine ⟨ok p hp, (ctF (l.take p)).length, ?_, st p hp, ?_, ?_⟩
    · show (ctF (l.take p)).length + (l.getD p []).length ≤ 200
      omega
    · show mI w6 54 (4 * 0 + p + 1) = jI ((((ctF (l.take p)).length + (l.getD p []).length : Nat)) : Int)
      by_cases c2 : p = 2
      · subst c2
        rw [show 4 * 0 + 2 + 1 = 4 * 0 + 3 from rfl, st3, ← tk, List.take_of_length_le (by omega)]
      · have := st (p + 1) (by omega)
        rw [show 4 * 0 + p + 1 = 4 * 0 + (p + 1) from rfl, this, tk]
    · intro j hj
      have hj : j < (l.getD p []).length := hj
      rw [show 200 * 0 + (ctF (l.take p)).length + j = 200 * 0 + ((ctF (l.take p)).length + j) by omega, cd _ (by omega)]
      conv => lhs; rw [sp]
      rw [gd_r, gd_l hj, gd_e hj]
