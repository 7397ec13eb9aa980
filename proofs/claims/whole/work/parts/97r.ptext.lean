/-! text: both answer alike -/
theorem ct_split : ∀ (l : List (List Int)) (p : Nat), p < l.length → ctF l = ctF (l.take p) ++ (l.getD p [] ++ ctF (l.drop (p + 1))) := by
  intro l
  induction l with
  | nil => intro p h; exact absurd h (Nat.not_lt_zero p)
  | cons e l ih =>
    intro p h
    cases p with
    | zero => rfl
    | succ p =>
      have := ih p (by simpa using h)
      show e ++ ctF l = (e ++ ctF (l.take p)) ++ (l.getD p [] ++ ctF (l.drop (p + 1)))
      rw [this]
      simp only [List.append_assoc]
theorem ct_take : ∀ (l : List (List Int)) (p : Nat), p < l.length → (ctF (l.take (p + 1))).length = (ctF (l.take p)).length + (l.getD p []).length := by
  intro l
  induction l with
  | nil => intro p h; exact absurd h (Nat.not_lt_zero p)
  | cons e l ih =>
    intro p h
    cases p with
    | zero =>
      show (e ++ ctF (l.take 0)).length = 0 + e.length
      rw [List.length_append]
      show e.length + 0 = _
      omega
    | succ p =>
      have := ih p (by simpa using h)
      show (e ++ ctF (l.take (p + 1))).length = (e ++ ctF (l.take p)).length + (l.getD p []).length
      rw [List.length_append, List.length_append, this]
      omega
theorem MI.md {w : ai_H} {g h : Nat → Int} {im : Int} {mv S : Nat → Nat → Int} {tn : Int} {tp : Nat → Int} {nt : Int} {T : Nat → Nat → List Int} (hM : MI w g h im mv S tn tp nt T) (hB : SB g h im mv S tn tp nt T) {n k : Nat} (hn : tn = n) (hk : nt = k) (h6 : k < 6) : MD w n tp k := by
  subst hn
  subst hk
  have tb := hB.tn
  exact ⟨hM.mo.mg, hM.tn, hM.nt, fun i hi => hM.tp i (by omega), hM.wd, ⟨by omega, fun i hi => hB.tp i (by omega)⟩, h6⟩
theorem MI.add {w w' : ai_H} {g h : Nat → Int} {im : Int} {mv S : Nat → Nat → Int} {tn : Int} {tp : Nat → Int} {nt : Int} {T : Nat → Nat → List Int} (hM : MI w g h im mv S tn tp nt T) (hB : SB g h im mv S tn tp nt T) {k : Nat} (hk : nt = k) (h6 : k < 6) {l : List (List Int)} (l3 : l.length = 3) (ok : ∀ q, q < 3 → okP (l.getD q []) 0) (hx : Ch (yZ k) w w') (k10 : mI w' 47 10 = jI 0) (k13 : mI w' 47 13 = jI ((k : Int) + 1)) (cd : ∀ j, j < (ctF l).length → mI w' 53 (200 * k + j) = jI (cM ((ctF l).getD j 0))) (st : ∀ j, j < 3 → mI w' 54 (4 * k + j) = jI (((ctF (l.take j)).length : Nat) : Int)) (st3 : mI w' 54 (4 * k + 3) = jI (((ctF l).length : Nat) : Int)) (lb : (ctF l).length < 170) : MI w' g h im mv S 0 tp (nt + 1) (adT T nt.toNat (fun p => l.getD p [])) := by
  subst hk
  have hi : ∀ i q, ¬ yZ k i q → mI w' i q = mI w i q := fun i q => hx.i
  have hb := hB.h0
  refine ⟨⟨hM.mo.1.eq2 hx.1, hM.mo.2.1, ?_, fun e he => ?_⟩, ?_, fun e he => ?_, ?_, fun z => ?_, fun z e he => ?_, fun z q c hq hc => ?_, fun q c hq hc => ?_, fun s hs => ?_, fun s hs => ?_, fun s i hs hj => ?_, k10, fun i hj => by omega, fun t ht p hp => ?_, k13, fun i hj => ?_⟩
  · rw [hi _ _ (by unfold yZ yT; omega), hi _ _ (by unfold yZ yT; omega), hi _ _ (by unfold yZ yT; omega), hi _ _ (by unfold yZ yT; omega), hi _ _ (by unfold yZ yT; omega)]
    exact hM.mo.2.2.1
  · rw [hi _ _ (by unfold yZ yT; omega), hi _ _ (by unfold yZ yT; omega), hi _ _ (by unfold yZ yT; omega), hi _ _ (by unfold yZ yT; omega)]
    exact hM.mo.2.2.2 e he
  · rw [hi _ _ (by unfold yZ yT; omega)]; exact hM.m7
  · rw [hi _ _ (by unfold yZ yT; omega)]; exact hM.ps e he
  · rw [hi _ _ (by unfold yZ yT; omega)]; exact hM.ik
  · rw [hi _ _ (by unfold yZ yT; omega), hi _ _ (by unfold yZ yT; omega), hi _ _ (by unfold yZ yT; omega), hi _ _ (by unfold yZ yT; omega), hi _ _ (by unfold yZ yT; omega), hi _ _ (by unfold yZ yT; omega)]
    exact hM.k0 z
  · rw [hi _ _ (by unfold yZ yT; omega), hi _ _ (by unfold yZ yT; omega), hi _ _ (by unfold yZ yT; omega)]
    exact hM.ke z e he
  · rw [hi _ _ (by unfold yZ yT; omega)]; exact hM.kv z q c hq hc
  · rw [hi _ _ (by unfold yZ yT; omega)]; exact hM.mv q c hq hc
  · rw [hi _ _ (by unfold yZ yT; omega)]; exact hM.h0 s hs
  · rw [hi _ _ (by unfold yZ yT; omega)]; exact hM.h1 s hs
  · rw [hi _ _ (by unfold yZ yT; omega)]; exact hM.hi s i hs hj
  · rw [show ((k : Nat) : Int).toNat = k from Int.toNat_natCast k]
    by_cases c : t = k
    · subst c
      rw [show adT T t (fun p => l.getD p []) t = (fun p => l.getD p []) from if_pos rfl]
      have sp := ct_split l p (by omega)
      have tk := ct_take l p (by omega)
      have ln : (ctF l).length = (ctF (l.take p)).length + ((l.getD p []).length + (ctF (l.drop (p + 1))).length) := by
        conv => lhs; rw [sp]
        rw [List.length_append, List.length_append]
      refine ⟨ok p hp, (ctF (l.take p)).length, ?_, st p hp, ?_, ?_⟩
      · show (ctF (l.take p)).length + (l.getD p []).length ≤ 200
        omega
      · show mI w' 54 (4 * t + p + 1) = jI ((((ctF (l.take p)).length + (l.getD p []).length : Nat)) : Int)
        by_cases c2 : p = 2
        · subst c2
          rw [show 4 * t + 2 + 1 = 4 * t + 3 from rfl, st3, ← tk, List.take_of_length_le (by omega)]
        · have := st (p + 1) (by omega)
          rw [show 4 * t + p + 1 = 4 * t + (p + 1) from rfl, this, tk]
      · intro j hj
        have hj : j < (l.getD p []).length := hj
        rw [show 200 * t + (ctF (l.take p)).length + j = 200 * t + ((ctF (l.take p)).length + j) by omega, cd _ (by omega)]
        conv => lhs; rw [sp]
        rw [gd_r, gd_l hj, gd_e hj]
    · rw [show adT T k (fun p => l.getD p []) t = T t from if_neg c]
      have htk : t < k := by omega
      obtain ⟨a1, b, a2, a3, a4, a5⟩ := hM.tx t (by omega) p hp
      refine ⟨a1, b, a2, ?_, ?_, fun j hj => ?_⟩
      · rw [hi _ _ (by unfold yZ yT; omega)]; exact a3
      · rw [hi _ _ (by unfold yZ yT; omega)]; exact a4
      · rw [hi _ _ (by unfold yZ yT; omega)]; exact a5 j hj
  · rw [hi _ _ (by unfold yZ yT; omega)]; exact hM.wd i hj
theorem MI.drp {w w' : ai_H} {g h : Nat → Int} {im : Int} {mv S : Nat → Nat → Int} {tn : Int} {tp : Nat → Int} {nt : Int} {T : Nat → Nat → List Int} (hM : MI w g h im mv S tn tp nt T) (hB : SB g h im mv S tn tp nt T) {k : Nat} (hk : nt = k) (hx : Ch (yY k) w w') (k10 : mI w' 47 10 = jI 0) : MI w' g h im mv S 0 tp nt T := by
  subst hk
  have hi : ∀ i q, ¬ yY k i q → mI w' i q = mI w i q := fun i q => hx.i
  have hb := hB.h0
  refine ⟨⟨hM.mo.1.eq2 hx.1, hM.mo.2.1, ?_, fun e he => ?_⟩, ?_, fun e he => ?_, ?_, fun z => ?_, fun z e he => ?_, fun z q c hq hc => ?_, fun q c hq hc => ?_, fun s hs => ?_, fun s hs => ?_, fun s i hs hj => ?_, k10, fun i hj => by omega, fun t ht p hp => ?_, ?_, fun i hj => ?_⟩
  · rw [hi _ _ (by unfold yY yT; omega), hi _ _ (by unfold yY yT; omega), hi _ _ (by unfold yY yT; omega), hi _ _ (by unfold yY yT; omega), hi _ _ (by unfold yY yT; omega)]
    exact hM.mo.2.2.1
  · rw [hi _ _ (by unfold yY yT; omega), hi _ _ (by unfold yY yT; omega), hi _ _ (by unfold yY yT; omega), hi _ _ (by unfold yY yT; omega)]
    exact hM.mo.2.2.2 e he
  · rw [hi _ _ (by unfold yY yT; omega)]; exact hM.m7
  · rw [hi _ _ (by unfold yY yT; omega)]; exact hM.ps e he
  · rw [hi _ _ (by unfold yY yT; omega)]; exact hM.ik
  · rw [hi _ _ (by unfold yY yT; omega), hi _ _ (by unfold yY yT; omega), hi _ _ (by unfold yY yT; omega), hi _ _ (by unfold yY yT; omega), hi _ _ (by unfold yY yT; omega), hi _ _ (by unfold yY yT; omega)]
    exact hM.k0 z
  · rw [hi _ _ (by unfold yY yT; omega), hi _ _ (by unfold yY yT; omega), hi _ _ (by unfold yY yT; omega)]
    exact hM.ke z e he
  · rw [hi _ _ (by unfold yY yT; omega)]; exact hM.kv z q c hq hc
  · rw [hi _ _ (by unfold yY yT; omega)]; exact hM.mv q c hq hc
  · rw [hi _ _ (by unfold yY yT; omega)]; exact hM.h0 s hs
  · rw [hi _ _ (by unfold yY yT; omega)]; exact hM.h1 s hs
  · rw [hi _ _ (by unfold yY yT; omega)]; exact hM.hi s i hs hj
  · obtain ⟨a1, b, a2, a3, a4, a5⟩ := hM.tx t ht p hp
    have htk : t < k := by omega
    refine ⟨a1, b, a2, ?_, ?_, fun j hj => ?_⟩
    · rw [hi _ _ (by unfold yY yT; omega)]; exact a3
    · rw [hi _ _ (by unfold yY yT; omega)]; exact a4
    · rw [hi _ _ (by unfold yY yT; omega)]; exact a5 j hj
  · rw [hi _ _ (by unfold yY yT; omega)]; exact hM.nt
  · rw [hi _ _ (by unfold yY yT; omega)]; exact hM.wd i hj
theorem p_text {w : ai_H} {g h : Nat → Int} {im : Int} {mv S : Nat → Nat → Int} {tn : Int} {tp : Nat → Int} {nt : Int} {T : Nat → Nat → List Int} (hB : SB g h im mv S tn tp nt T) (hA : AI w g h im mv S tn tp nt T) (hM : MI w g h im mv S tn tp nt T) {d : Nat} : Cl (d + 60) mX8_text [.ref 0] w (PQ mX9_text (d + 60) [.ref 47]) := by
  have ag := hA.ag ; have ho := hA.po ; have gb := hB.gb.b ; have gm := hB.gm ; have ntb := hB.nt ; have tnb := hB.tn ; have gl := hB.gl ; have hl := hA.tx.l ; have imb := hB.im ; have v13 : ai_isV 13 = false := rfl ; have v32 : ai_isV 32 = false := rfl
  obtain ⟨n, hn⟩ : ∃ n : Nat, tn = n := ⟨tn.toNat, by omega⟩
  obtain ⟨k, hk⟩ : ∃ k : Nat, nt = k := ⟨nt.toNat, by omega⟩
  obtain ⟨x, hx⟩ : ∃ x, x = txF 3 0 (toks n tp (tkN n tp 0)) := ⟨_, rfl⟩
  have hx2 : x = mtF 3 0 (toks n tp (tkN n tp 0)) := hx.trans (tx_mt 3 0 _)
  have tb := hB.tn
  have B0 : SB g h im mv S 0 tp nt T := hB.tape (by omega) (fun i hi => by omega)
  refine c_text hB hA hn hx (fun h6 => ?_) (fun h6 c w1 f1 hA1 => ?_) (fun h6 c w1 f1 hA1 => ?_)
  · refine PQ.mk ?_
    have hm := hM.mo.mg
    have e6 : nt = 6 := by omega
    have v13 := hM.nt
    rw [e6] at v13
    simp (disch := first | omega | assumption) only [eX9_text, sX9_text_0, sX9_text_1, sX9_text_4, sX9_text_6, sX9_text_9, sX9_text_11, v13, hm.s, mI_msI, mI_msP, mI_msA, mP_msI, mP_msP, mP_msA, mS_msI, mS_msP, mS_msA, mN_msI, mN_msP, mN_msA, Option.toList_some, Option.toList_none, List.cons_append, List.nil_append, ai_rf_s, ai_rf_n, ai_kl_i, ai_kl_r, ai_kl_n, b2_0, b2_1, if_true, if_false, and_true, true_and, or_false, false_or, or_true, true_or, and_false, false_and, not_true_eq_false, not_false_eq_true, seval, jN, jI_add, jI_sub, jI_mul, jI_neg, jj_lt, jj_le, jj_eq, jj_div, jj_rem, jl_cl, b2_j0, b2_j1, show (0 : Int32) = jI 0 from rfl, show (1 : Int32) = jI 1 from rfl, show (2 : Int32) = jI 2 from rfl, show (3 : Int32) = jI 3 from rfl, show (4 : Int32) = jI 4 from rfl, show (5 : Int32) = jI 5 from rfl, show (6 : Int32) = jI 6 from rfl, show (7 : Int32) = jI 7 from rfl, show (8 : Int32) = jI 8 from rfl, show (9 : Int32) = jI 9 from rfl, show (10 : Int32) = jI 10 from rfl, show (11 : Int32) = jI 11 from rfl, show (12 : Int32) = jI 12 from rfl, show (13 : Int32) = jI 13 from rfl, show (14 : Int32) = jI 14 from rfl, show (15 : Int32) = jI 15 from rfl, show (16 : Int32) = jI 16 from rfl, show (17 : Int32) = jI 17 from rfl, show (18 : Int32) = jI 18 from rfl, show (19 : Int32) = jI 19 from rfl, show (20 : Int32) = jI 20 from rfl, show (21 : Int32) = jI 21 from rfl, show (22 : Int32) = jI 22 from rfl, show (23 : Int32) = jI 23 from rfl, show (24 : Int32) = jI 24 from rfl, show (25 : Int32) = jI 25 from rfl, show (26 : Int32) = jI 26 from rfl, show (27 : Int32) = jI 27 from rfl, show (28 : Int32) = jI 28 from rfl, show (29 : Int32) = jI 29 from rfl, show (30 : Int32) = jI 30 from rfl, show (31 : Int32) = jI 31 from rfl, show (32 : Int32) = jI 32 from rfl, show (33 : Int32) = jI 33 from rfl, show (34 : Int32) = jI 34 from rfl, show (35 : Int32) = jI 35 from rfl, show (36 : Int32) = jI 36 from rfl, show (37 : Int32) = jI 37 from rfl, show (38 : Int32) = jI 38 from rfl, show (39 : Int32) = jI 39 from rfl, show (40 : Int32) = jI 40 from rfl, show (41 : Int32) = jI 41 from rfl, show (42 : Int32) = jI 42 from rfl, show (43 : Int32) = jI 43 from rfl, show (44 : Int32) = jI 44 from rfl, show (45 : Int32) = jI 45 from rfl, show (46 : Int32) = jI 46 from rfl, show (47 : Int32) = jI 47 from rfl, show (48 : Int32) = jI 48 from rfl, show (49 : Int32) = jI 49 from rfl, show (50 : Int32) = jI 50 from rfl, show (51 : Int32) = jI 51 from rfl, show (52 : Int32) = jI 52 from rfl, show (53 : Int32) = jI 53 from rfl, show (54 : Int32) = jI 54 from rfl, show (55 : Int32) = jI 55 from rfl, show (56 : Int32) = jI 56 from rfl, show (57 : Int32) = jI 57 from rfl, show (58 : Int32) = jI 58 from rfl, show (59 : Int32) = jI 59 from rfl, show (60 : Int32) = jI 60 from rfl, show (61 : Int32) = jI 61 from rfl, show (62 : Int32) = jI 62 from rfl, show (63 : Int32) = jI 63 from rfl, show (64 : Int32) = jI 64 from rfl, show (65 : Int32) = jI 65 from rfl, show (66 : Int32) = jI 66 from rfl, show (67 : Int32) = jI 67 from rfl, show (68 : Int32) = jI 68 from rfl, show (69 : Int32) = jI 69 from rfl, show (70 : Int32) = jI 70 from rfl, show (71 : Int32) = jI 71 from rfl, show (72 : Int32) = jI 72 from rfl, show (73 : Int32) = jI 73 from rfl, show (74 : Int32) = jI 74 from rfl, show (75 : Int32) = jI 75 from rfl, show (76 : Int32) = jI 76 from rfl, show (77 : Int32) = jI 77 from rfl, show (78 : Int32) = jI 78 from rfl, show (79 : Int32) = jI 79 from rfl, show (80 : Int32) = jI 80 from rfl, show (81 : Int32) = jI 81 from rfl, show (82 : Int32) = jI 82 from rfl, show (83 : Int32) = jI 83 from rfl, show (84 : Int32) = jI 84 from rfl, show (85 : Int32) = jI 85 from rfl, show (86 : Int32) = jI 86 from rfl, show (87 : Int32) = jI 87 from rfl, show (88 : Int32) = jI 88 from rfl, show (89 : Int32) = jI 89 from rfl, show (90 : Int32) = jI 90 from rfl, show (91 : Int32) = jI 91 from rfl, show (92 : Int32) = jI 92 from rfl, show (93 : Int32) = jI 93 from rfl, show (94 : Int32) = jI 94 from rfl, show (95 : Int32) = jI 95 from rfl, show (96 : Int32) = jI 96 from rfl, show (97 : Int32) = jI 97 from rfl, show (99 : Int32) = jI 99 from rfl, show (100 : Int32) = jI 100 from rfl, show (101 : Int32) = jI 101 from rfl, show (102 : Int32) = jI 102 from rfl, show (103 : Int32) = jI 103 from rfl, show (104 : Int32) = jI 104 from rfl, show (105 : Int32) = jI 105 from rfl, show (107 : Int32) = jI 107 from rfl, show (108 : Int32) = jI 108 from rfl, show (109 : Int32) = jI 109 from rfl, show (110 : Int32) = jI 110 from rfl, show (111 : Int32) = jI 111 from rfl, show (112 : Int32) = jI 112 from rfl, show (114 : Int32) = jI 114 from rfl, show (115 : Int32) = jI 115 from rfl, show (116 : Int32) = jI 116 from rfl, show (117 : Int32) = jI 117 from rfl, show (119 : Int32) = jI 119 from rfl, show (122 : Int32) = jI 122 from rfl, show (160 : Int32) = jI 160 from rfl, show (200 : Int32) = jI 200 from rfl, show (255 : Int32) = jI 255 from rfl, show (360 : Int32) = jI 360 from rfl, show (1000 : Int32) = jI 1000 from rfl, show (1200 : Int32) = jI 1200 from rfl, show (4050 : Int32) = jI 4050 from rfl, show (99999 : Int32) = jI 99999 from rfl, show (100000 : Int32) = jI 100000 from rfl, Decidable.not_not]
    exact LI.mk hB hA hM
  · refine PQ.mk ?_
    have hM1 := hM.fa hB f1
    have md := hM1.md hB hn hk (by omega)
    refine n_text md hx2 (fun c' w2 x2 k10 k13 cd st st3 lb => ?_) (fun c' => absurd c c')
    have l3 : x.2.2.length = 3 := by rw [hx] at c ⊢; exact tx_len 3 0 _ c
    have ok := fun q hq => (by rw [hx] at c ⊢; exact tx_ok 3 0 _ (toks_ok n _ (tkN_b (tp := tp) (Nat.zero_le n)).2 (by omega)) c q hq : okP (x.2.2.getD q []) 0)
    have hB2 := hB.add h6 (fun p => x.2.2.getD p [])
    refine ⟨by rw [hk], LI.mk hB2 (hA1.ch hB2 (x2.mono (fun i q z => ?_))) (hM1.add hB hk (by omega) l3 ok x2 k10 k13 cd st st3 lb)⟩
    unfold yZ yT at z
    unfold yA
    omega
  · refine PQ.mk ?_
    have hM1 := hM.fa hB f1
    have md := hM1.md hB hn hk (by omega)
    refine n_text md hx2 (fun c' => absurd c' c) (fun c' w2 x2 k10 => ?_)
    refine ⟨rfl, LI.mk B0 (hA1.ch B0 (x2.mono (fun i q z => ?_))) (hM1.drp hB hk x2 k10)⟩
    unfold yY yT at z
    unfold yA
    omega
