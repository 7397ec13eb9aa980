/-! the law, a call after another -/
theorem Cl.imp {d : Nat} {m : ai_M} {as : List Value} {w : ai_H} {Q Q' : Option Value → ai_H → Prop} (h : Cl d m as w Q) (hq : ∀ r w', Q r w' → Q' r w') : Cl d m as w Q' := Ex.imp h hq
theorem gC_L {m : ai_M} {k : Nat × Nat} (hk : k.1 ≤ 10000 ∧ k.2 ≤ 1000000) (h : (decide (ai_mc m ≤ 100) && decide (ai_mz m ≤ 10000)) = true) : gC' mL_law m k := by
  simp only [Bool.and_eq_true, decide_eq_true_eq] at h
  have e1 : ai_mc mL_law = 600000 := rfl
  have e2 : ai_mz mL_law = 7302249 := rfl
  unfold gC'
  rw [e1, e2]
  omega
def SRc (w : ai_H) (L : Nat) (X : Nat → Int) : Prop := mN w ≤ 1000000 ∧ (∀ j, mI w 1000300 j = jI (X j)) ∧ mP w 1000300 0 = some L ∧ mS w 0 = (1, 6) ∧ mS w 47 = (1, 7) ∧ 48 ≤ mN w
theorem SRc.sc {w w' : ai_H} {L : Nat} {X : Nat → Int} (h : SRc w L X) (s : SC w w') : SRc w' L X := by
  obtain ⟨h1, h2, h3, h4, h5, h6⟩ := h
  obtain ⟨s1, s2, s3, s4, s5⟩ := s h1
  exact ⟨s1, fun j => (s2 j).trans (h2 j), (s3 0).trans h3, (s5 0 (by omega)).trans h4, (s5 47 (by omega)).trans h5, by omega⟩
theorem SRc.g {w : ai_H} {L : Nat} {X : Nat → Int} (h : SRc w L X) (L0 : L ≤ 3584) {j : Int} (j0 : 0 ≤ j) (j1 : j < L) : gI w 1000300 (jI j) ↔ True := iff_true_intro (Or.inr ⟨rfl, by
  unfold ai_sl
  rw [h.2.2.1]
  exact (jl_ib (by omega) (by omega)).mpr ⟨j0, by show j < ((L : Nat) : Int); exact j1⟩⟩)
theorem SRc.v {w : ai_H} {L : Nat} {X : Nat → Int} (h : SRc w L X) {j : Int} {n : Nat} (e : j = n) : mI w 1000300 j.toNat = jI (X n) := by
  rw [e, Int.toNat_natCast]
  exact h.2.1 n
theorem lg_self (z : Int64) : lg_cmp z z = 0 := by
  unfold lg_cmp
  simp
set_option maxHeartbeats 4000000 in
theorem lc_0 {D L i : Nat} {X : Nat → Int} {w : ai_H} {k : Nat × Nat} {Q : Option Value → ai_H → Prop} (sr : SRc w L X) (hL : LI w) (iL : i + 7 ≤ L) (L0 : L ≤ 3584) (hk : k.1 ≤ 9000 ∧ k.2 ≤ 900000) (lo : ∀ j, -2147483648 ≤ X j) (hi : ∀ j, X j < 2147483648) (nx : ∀ w', SRc w' L X → LI w' → Ex (D + 61) mL_law 18 [some (.ref 1000300), some (.ref 0), some (.ref 47), some (.int (jI ((i + 7 : Nat) : Int)))] [] k w' Q) : Ex (D + 61) mL_law 200 [some (.ref 1000300), some (.ref 0), some (.ref 47), some (.int (jI i))] [] k w Q := by
  have s0 := sr.2.2.2.1
  have s47 := sr.2.2.2.2.1
  have e1 := sr.v (j := (i : Int) + 1) (n := i + 1) (by omega)
  have g1 := sr.g L0 (j := (i : Int) + 1) (by omega) (by omega)
  obtain ⟨g, h, im, mv, S, tn, tp, nt, T, hB, hA, hM⟩ := hL
  simp (disch := first | omega | assumption | exact gC_L ⟨by omega, by omega⟩ rfl | exact gC_L ⟨by show k.1 + 3 ≤ 10000; omega, by show k.2 + 165 ≤ 1000000; omega⟩ rfl) only [sL_law_200, sL_law_201, sL_law_202, sL_law_203, sL_law_204, sL_law_205, sL_law_206, e1, g1, s0, s47, mI_msI, mI_msP, mI_msA, mP_msI, mP_msP, mP_msA, mS_msI, mS_msP, mS_msA, mN_msI, mN_msP, mN_msA, Option.toList_some, Option.toList_none, List.cons_append, List.nil_append, ai_rf_s, ai_rf_n, ai_kl_i, ai_kl_r, ai_kl_n, b2_0, b2_1, if_true, if_false, and_true, true_and, or_false, false_or, or_true, true_or, and_false, false_and, not_true_eq_false, not_false_eq_true, seval, jN, jI_add, jI_sub, jI_mul, jI_neg, jj_lt, jj_le, jj_eq, jj_div, jj_rem, jl_cl, b2_j0, b2_j1, show (0 : Int32) = jI 0 from rfl, show (1 : Int32) = jI 1 from rfl, show (2 : Int32) = jI 2 from rfl, show (3 : Int32) = jI 3 from rfl, show (4 : Int32) = jI 4 from rfl, show (5 : Int32) = jI 5 from rfl, show (6 : Int32) = jI 6 from rfl, show (7 : Int32) = jI 7 from rfl, show (63 : Int32) = jI 63 from rfl, Decidable.not_not, eq_self, lg_self]
  refine Cl.imp (Cl_sc (p_count hB hA hM (lo (i + 1)) (hi (i + 1)))) (fun r w1 hh => ?_)
  obtain ⟨⟨z, rfl, hM1⟩, sc⟩ := hh
  have sr := sr.sc sc
  have s0 := sr.2.2.2.1
  have s47 := sr.2.2.2.2.1
  have e1 := sr.v (j := (i : Int) + 1) (n := i + 1) (by omega)
  have g1 := sr.g L0 (j := (i : Int) + 1) (by omega) (by omega)
  simp (disch := first | omega | assumption | exact gC_L ⟨by omega, by omega⟩ rfl | exact gC_L ⟨by show k.1 + 3 ≤ 10000; omega, by show k.2 + 165 ≤ 1000000; omega⟩ rfl) only [sL_law_209, sL_law_210, sL_law_211, sL_law_212, sL_law_213, sL_law_214, sL_law_215, e1, g1, s0, s47, mI_msI, mI_msP, mI_msA, mP_msI, mP_msP, mP_msA, mS_msI, mS_msP, mS_msA, mN_msI, mN_msP, mN_msA, Option.toList_some, Option.toList_none, List.cons_append, List.nil_append, ai_rf_s, ai_rf_n, ai_kl_i, ai_kl_r, ai_kl_n, b2_0, b2_1, if_true, if_false, and_true, true_and, or_false, false_or, or_true, true_or, and_false, false_and, not_true_eq_false, not_false_eq_true, seval, jN, jI_add, jI_sub, jI_mul, jI_neg, jj_lt, jj_le, jj_eq, jj_div, jj_rem, jl_cl, b2_j0, b2_j1, show (0 : Int32) = jI 0 from rfl, show (1 : Int32) = jI 1 from rfl, show (2 : Int32) = jI 2 from rfl, show (3 : Int32) = jI 3 from rfl, show (4 : Int32) = jI 4 from rfl, show (5 : Int32) = jI 5 from rfl, show (6 : Int32) = jI 6 from rfl, show (7 : Int32) = jI 7 from rfl, show (63 : Int32) = jI 63 from rfl, Decidable.not_not, eq_self, lg_self]
  refine Cl.imp (Cl_sc hM1) (fun r2 w2 hh2 => ?_)
  obtain ⟨⟨rfl, L2⟩, sc2⟩ := hh2
  have h5 := nx w2 (sr.sc sc2) L2
  rw [Int.natCast_add] at h5
  simp (disch := first | omega | assumption | exact gC_L ⟨by omega, by omega⟩ rfl | exact gC_L ⟨by show k.1 + 3 ≤ 10000; omega, by show k.2 + 165 ≤ 1000000; omega⟩ rfl) only [sL_law_218, sL_law_221, sL_law_222, sL_law_1488, sL_law_1491, mI_msI, mI_msP, mI_msA, mP_msI, mP_msP, mP_msA, mS_msI, mS_msP, mS_msA, mN_msI, mN_msP, mN_msA, Option.toList_some, Option.toList_none, List.cons_append, List.nil_append, ai_rf_s, ai_rf_n, ai_kl_i, ai_kl_r, ai_kl_n, b2_0, b2_1, if_true, if_false, and_true, true_and, or_false, false_or, or_true, true_or, and_false, false_and, not_true_eq_false, not_false_eq_true, seval, jN, jI_add, jI_sub, jI_mul, jI_neg, jj_lt, jj_le, jj_eq, jj_div, jj_rem, jl_cl, b2_j0, b2_j1, show (0 : Int32) = jI 0 from rfl, show (1 : Int32) = jI 1 from rfl, show (2 : Int32) = jI 2 from rfl, show (3 : Int32) = jI 3 from rfl, show (4 : Int32) = jI 4 from rfl, show (5 : Int32) = jI 5 from rfl, show (6 : Int32) = jI 6 from rfl, show (7 : Int32) = jI 7 from rfl, show (63 : Int32) = jI 63 from rfl, Decidable.not_not, eq_self, lg_self]
  exact h5
set_option maxHeartbeats 4000000 in
theorem lc_1 {D L i : Nat} {X : Nat → Int} {w : ai_H} {k : Nat × Nat} {Q : Option Value → ai_H → Prop} (sr : SRc w L X) (hL : LI w) (iL : i + 7 ≤ L) (L0 : L ≤ 3584) (hk : k.1 ≤ 9000 ∧ k.2 ≤ 900000) (lo : ∀ j, -2147483648 ≤ X j) (hi : ∀ j, X j < 2147483648) (nx : ∀ w', SRc w' L X → LI w' → Ex (D + 61) mL_law 18 [some (.ref 1000300), some (.ref 0), some (.ref 47), some (.int (jI ((i + 7 : Nat) : Int)))] [] k w' Q) : Ex (D + 61) mL_law 223 [some (.ref 1000300), some (.ref 0), some (.ref 47), some (.int (jI i))] [] k w Q := by
  have s0 := sr.2.2.2.1
  have s47 := sr.2.2.2.2.1
  have e1 := sr.v (j := (i : Int) + 1) (n := i + 1) (by omega)
  have g1 := sr.g L0 (j := (i : Int) + 1) (by omega) (by omega)
  have e2 := sr.v (j := (i : Int) + 2) (n := i + 2) (by omega)
  have g2 := sr.g L0 (j := (i : Int) + 2) (by omega) (by omega)
  obtain ⟨g, h, im, mv, S, tn, tp, nt, T, hB, hA, hM⟩ := hL
  simp (disch := first | omega | assumption | exact gC_L ⟨by omega, by omega⟩ rfl | exact gC_L ⟨by show k.1 + 3 ≤ 10000; omega, by show k.2 + 165 ≤ 1000000; omega⟩ rfl) only [sL_law_223, sL_law_224, sL_law_225, sL_law_226, sL_law_227, sL_law_228, sL_law_229, sL_law_230, sL_law_231, sL_law_232, sL_law_233, sL_law_234, e1, g1, e2, g2, s0, s47, mI_msI, mI_msP, mI_msA, mP_msI, mP_msP, mP_msA, mS_msI, mS_msP, mS_msA, mN_msI, mN_msP, mN_msA, Option.toList_some, Option.toList_none, List.cons_append, List.nil_append, ai_rf_s, ai_rf_n, ai_kl_i, ai_kl_r, ai_kl_n, b2_0, b2_1, if_true, if_false, and_true, true_and, or_false, false_or, or_true, true_or, and_false, false_and, not_true_eq_false, not_false_eq_true, seval, jN, jI_add, jI_sub, jI_mul, jI_neg, jj_lt, jj_le, jj_eq, jj_div, jj_rem, jl_cl, b2_j0, b2_j1, show (0 : Int32) = jI 0 from rfl, show (1 : Int32) = jI 1 from rfl, show (2 : Int32) = jI 2 from rfl, show (3 : Int32) = jI 3 from rfl, show (4 : Int32) = jI 4 from rfl, show (5 : Int32) = jI 5 from rfl, show (6 : Int32) = jI 6 from rfl, show (7 : Int32) = jI 7 from rfl, show (63 : Int32) = jI 63 from rfl, Decidable.not_not, eq_self, lg_self]
  refine Cl.imp (Cl_sc (p_set hB hA hM (lo (i + 1)) (hi (i + 1)) (lo (i + 2)) (hi (i + 2)))) (fun r w1 hh => ?_)
  obtain ⟨⟨z, rfl, hM1⟩, sc⟩ := hh
  have sr := sr.sc sc
  have s0 := sr.2.2.2.1
  have s47 := sr.2.2.2.2.1
  have e1 := sr.v (j := (i : Int) + 1) (n := i + 1) (by omega)
  have g1 := sr.g L0 (j := (i : Int) + 1) (by omega) (by omega)
  have e2 := sr.v (j := (i : Int) + 2) (n := i + 2) (by omega)
  have g2 := sr.g L0 (j := (i : Int) + 2) (by omega) (by omega)
  simp (disch := first | omega | assumption | exact gC_L ⟨by omega, by omega⟩ rfl | exact gC_L ⟨by show k.1 + 3 ≤ 10000; omega, by show k.2 + 165 ≤ 1000000; omega⟩ rfl) only [sL_law_237, sL_law_238, sL_law_239, sL_law_240, sL_law_241, sL_law_242, sL_law_243, sL_law_244, sL_law_245, sL_law_246, sL_law_247, sL_law_248, e1, g1, e2, g2, s0, s47, mI_msI, mI_msP, mI_msA, mP_msI, mP_msP, mP_msA, mS_msI, mS_msP, mS_msA, mN_msI, mN_msP, mN_msA, Option.toList_some, Option.toList_none, List.cons_append, List.nil_append, ai_rf_s, ai_rf_n, ai_kl_i, ai_kl_r, ai_kl_n, b2_0, b2_1, if_true, if_false, and_true, true_and, or_false, false_or, or_true, true_or, and_false, false_and, not_true_eq_false, not_false_eq_true, seval, jN, jI_add, jI_sub, jI_mul, jI_neg, jj_lt, jj_le, jj_eq, jj_div, jj_rem, jl_cl, b2_j0, b2_j1, show (0 : Int32) = jI 0 from rfl, show (1 : Int32) = jI 1 from rfl, show (2 : Int32) = jI 2 from rfl, show (3 : Int32) = jI 3 from rfl, show (4 : Int32) = jI 4 from rfl, show (5 : Int32) = jI 5 from rfl, show (6 : Int32) = jI 6 from rfl, show (7 : Int32) = jI 7 from rfl, show (63 : Int32) = jI 63 from rfl, Decidable.not_not, eq_self, lg_self]
  refine Cl.imp (Cl_sc hM1) (fun r2 w2 hh2 => ?_)
  obtain ⟨⟨rfl, L2⟩, sc2⟩ := hh2
  have h5 := nx w2 (sr.sc sc2) L2
  rw [Int.natCast_add] at h5
  simp (disch := first | omega | assumption | exact gC_L ⟨by omega, by omega⟩ rfl | exact gC_L ⟨by show k.1 + 3 ≤ 10000; omega, by show k.2 + 165 ≤ 1000000; omega⟩ rfl) only [sL_law_251, sL_law_254, sL_law_255, sL_law_1488, sL_law_1491, mI_msI, mI_msP, mI_msA, mP_msI, mP_msP, mP_msA, mS_msI, mS_msP, mS_msA, mN_msI, mN_msP, mN_msA, Option.toList_some, Option.toList_none, List.cons_append, List.nil_append, ai_rf_s, ai_rf_n, ai_kl_i, ai_kl_r, ai_kl_n, b2_0, b2_1, if_true, if_false, and_true, true_and, or_false, false_or, or_true, true_or, and_false, false_and, not_true_eq_false, not_false_eq_true, seval, jN, jI_add, jI_sub, jI_mul, jI_neg, jj_lt, jj_le, jj_eq, jj_div, jj_rem, jl_cl, b2_j0, b2_j1, show (0 : Int32) = jI 0 from rfl, show (1 : Int32) = jI 1 from rfl, show (2 : Int32) = jI 2 from rfl, show (3 : Int32) = jI 3 from rfl, show (4 : Int32) = jI 4 from rfl, show (5 : Int32) = jI 5 from rfl, show (6 : Int32) = jI 6 from rfl, show (7 : Int32) = jI 7 from rfl, show (63 : Int32) = jI 63 from rfl, Decidable.not_not, eq_self, lg_self]
  exact h5
set_option maxHeartbeats 4000000 in
theorem lc_2 {D L i : Nat} {X : Nat → Int} {w : ai_H} {k : Nat × Nat} {Q : Option Value → ai_H → Prop} (sr : SRc w L X) (hL : LI w) (iL : i + 7 ≤ L) (L0 : L ≤ 3584) (hk : k.1 ≤ 9000 ∧ k.2 ≤ 900000) (lo : ∀ j, -2147483648 ≤ X j) (hi : ∀ j, X j < 2147483648) (nx : ∀ w', SRc w' L X → LI w' → Ex (D + 61) mL_law 18 [some (.ref 1000300), some (.ref 0), some (.ref 47), some (.int (jI ((i + 7 : Nat) : Int)))] [] k w' Q) : Ex (D + 61) mL_law 256 [some (.ref 1000300), some (.ref 0), some (.ref 47), some (.int (jI i))] [] k w Q := by
  have s0 := sr.2.2.2.1
  have s47 := sr.2.2.2.2.1
  have e1 := sr.v (j := (i : Int) + 1) (n := i + 1) (by omega)
  have g1 := sr.g L0 (j := (i : Int) + 1) (by omega) (by omega)
  have e2 := sr.v (j := (i : Int) + 2) (n := i + 2) (by omega)
  have g2 := sr.g L0 (j := (i : Int) + 2) (by omega) (by omega)
  have e3 := sr.v (j := (i : Int) + 3) (n := i + 3) (by omega)
  have g3 := sr.g L0 (j := (i : Int) + 3) (by omega) (by omega)
  have e4 := sr.v (j := (i : Int) + 4) (n := i + 4) (by omega)
  have g4 := sr.g L0 (j := (i : Int) + 4) (by omega) (by omega)
  have e5 := sr.v (j := (i : Int) + 5) (n := i + 5) (by omega)
  have g5 := sr.g L0 (j := (i : Int) + 5) (by omega) (by omega)
  have e6 := sr.v (j := (i : Int) + 6) (n := i + 6) (by omega)
  have g6 := sr.g L0 (j := (i : Int) + 6) (by omega) (by omega)
  obtain ⟨g, h, im, mv, S, tn, tp, nt, T, hB, hA, hM⟩ := hL
  simp (disch := first | omega | assumption | exact gC_L ⟨by omega, by omega⟩ rfl | exact gC_L ⟨by show k.1 + 3 ≤ 10000; omega, by show k.2 + 165 ≤ 1000000; omega⟩ rfl) only [sL_law_256, sL_law_257, sL_law_258, sL_law_259, sL_law_260, sL_law_261, sL_law_262, sL_law_263, sL_law_264, sL_law_265, sL_law_266, sL_law_267, sL_law_268, sL_law_269, sL_law_270, sL_law_271, sL_law_272, sL_law_273, sL_law_274, sL_law_275, sL_law_276, sL_law_277, sL_law_278, sL_law_279, sL_law_280, sL_law_281, sL_law_282, sL_law_283, sL_law_284, sL_law_286, sL_law_287, sL_law_288, e1, g1, e2, g2, e3, g3, e4, g4, e5, g5, e6, g6, s0, s47, mI_msI, mI_msP, mI_msA, mP_msI, mP_msP, mP_msA, mS_msI, mS_msP, mS_msA, mN_msI, mN_msP, mN_msA, Option.toList_some, Option.toList_none, List.cons_append, List.nil_append, ai_rf_s, ai_rf_n, ai_kl_i, ai_kl_r, ai_kl_n, b2_0, b2_1, if_true, if_false, and_true, true_and, or_false, false_or, or_true, true_or, and_false, false_and, not_true_eq_false, not_false_eq_true, seval, jN, jI_add, jI_sub, jI_mul, jI_neg, jj_lt, jj_le, jj_eq, jj_div, jj_rem, jl_cl, b2_j0, b2_j1, show (0 : Int32) = jI 0 from rfl, show (1 : Int32) = jI 1 from rfl, show (2 : Int32) = jI 2 from rfl, show (3 : Int32) = jI 3 from rfl, show (4 : Int32) = jI 4 from rfl, show (5 : Int32) = jI 5 from rfl, show (6 : Int32) = jI 6 from rfl, show (7 : Int32) = jI 7 from rfl, show (63 : Int32) = jI 63 from rfl, Decidable.not_not, eq_self, lg_self]
  refine Cl.imp (Cl_sc (p_feed hB hA hM (lo (i + 1)) (hi (i + 1)) (lo (i + 2)) (hi (i + 2)) (lo (i + 3)) (hi (i + 3)) (lo (i + 4)) (hi (i + 4)) (lo (i + 5)) (hi (i + 5)) (lo (i + 6)) (hi (i + 6)))) (fun r w1 hh => ?_)
  obtain ⟨⟨z, rfl, hM1⟩, sc⟩ := hh
  have sr := sr.sc sc
  have s0 := sr.2.2.2.1
  have s47 := sr.2.2.2.2.1
  have e1 := sr.v (j := (i : Int) + 1) (n := i + 1) (by omega)
  have g1 := sr.g L0 (j := (i : Int) + 1) (by omega) (by omega)
  have e2 := sr.v (j := (i : Int) + 2) (n := i + 2) (by omega)
  have g2 := sr.g L0 (j := (i : Int) + 2) (by omega) (by omega)
  have e3 := sr.v (j := (i : Int) + 3) (n := i + 3) (by omega)
  have g3 := sr.g L0 (j := (i : Int) + 3) (by omega) (by omega)
  have e4 := sr.v (j := (i : Int) + 4) (n := i + 4) (by omega)
  have g4 := sr.g L0 (j := (i : Int) + 4) (by omega) (by omega)
  have e5 := sr.v (j := (i : Int) + 5) (n := i + 5) (by omega)
  have g5 := sr.g L0 (j := (i : Int) + 5) (by omega) (by omega)
  have e6 := sr.v (j := (i : Int) + 6) (n := i + 6) (by omega)
  have g6 := sr.g L0 (j := (i : Int) + 6) (by omega) (by omega)
  simp (disch := first | omega | assumption | exact gC_L ⟨by omega, by omega⟩ rfl | exact gC_L ⟨by show k.1 + 3 ≤ 10000; omega, by show k.2 + 165 ≤ 1000000; omega⟩ rfl) only [sL_law_291, sL_law_292, sL_law_293, sL_law_294, sL_law_295, sL_law_296, sL_law_297, sL_law_298, sL_law_299, sL_law_300, sL_law_301, sL_law_302, sL_law_303, sL_law_304, sL_law_305, sL_law_306, sL_law_307, sL_law_308, sL_law_309, sL_law_310, sL_law_311, sL_law_312, sL_law_313, sL_law_314, sL_law_315, sL_law_316, sL_law_317, sL_law_318, sL_law_319, sL_law_321, sL_law_322, sL_law_323, e1, g1, e2, g2, e3, g3, e4, g4, e5, g5, e6, g6, s0, s47, mI_msI, mI_msP, mI_msA, mP_msI, mP_msP, mP_msA, mS_msI, mS_msP, mS_msA, mN_msI, mN_msP, mN_msA, Option.toList_some, Option.toList_none, List.cons_append, List.nil_append, ai_rf_s, ai_rf_n, ai_kl_i, ai_kl_r, ai_kl_n, b2_0, b2_1, if_true, if_false, and_true, true_and, or_false, false_or, or_true, true_or, and_false, false_and, not_true_eq_false, not_false_eq_true, seval, jN, jI_add, jI_sub, jI_mul, jI_neg, jj_lt, jj_le, jj_eq, jj_div, jj_rem, jl_cl, b2_j0, b2_j1, show (0 : Int32) = jI 0 from rfl, show (1 : Int32) = jI 1 from rfl, show (2 : Int32) = jI 2 from rfl, show (3 : Int32) = jI 3 from rfl, show (4 : Int32) = jI 4 from rfl, show (5 : Int32) = jI 5 from rfl, show (6 : Int32) = jI 6 from rfl, show (7 : Int32) = jI 7 from rfl, show (63 : Int32) = jI 63 from rfl, Decidable.not_not, eq_self, lg_self]
  refine Cl.imp (Cl_sc hM1) (fun r2 w2 hh2 => ?_)
  obtain ⟨⟨rfl, L2⟩, sc2⟩ := hh2
  have h5 := nx w2 (sr.sc sc2) L2
  rw [Int.natCast_add] at h5
  simp (disch := first | omega | assumption | exact gC_L ⟨by omega, by omega⟩ rfl | exact gC_L ⟨by show k.1 + 3 ≤ 10000; omega, by show k.2 + 165 ≤ 1000000; omega⟩ rfl) only [sL_law_326, sL_law_329, sL_law_330, sL_law_1488, sL_law_1491, mI_msI, mI_msP, mI_msA, mP_msI, mP_msP, mP_msA, mS_msI, mS_msP, mS_msA, mN_msI, mN_msP, mN_msA, Option.toList_some, Option.toList_none, List.cons_append, List.nil_append, ai_rf_s, ai_rf_n, ai_kl_i, ai_kl_r, ai_kl_n, b2_0, b2_1, if_true, if_false, and_true, true_and, or_false, false_or, or_true, true_or, and_false, false_and, not_true_eq_false, not_false_eq_true, seval, jN, jI_add, jI_sub, jI_mul, jI_neg, jj_lt, jj_le, jj_eq, jj_div, jj_rem, jl_cl, b2_j0, b2_j1, show (0 : Int32) = jI 0 from rfl, show (1 : Int32) = jI 1 from rfl, show (2 : Int32) = jI 2 from rfl, show (3 : Int32) = jI 3 from rfl, show (4 : Int32) = jI 4 from rfl, show (5 : Int32) = jI 5 from rfl, show (6 : Int32) = jI 6 from rfl, show (7 : Int32) = jI 7 from rfl, show (63 : Int32) = jI 63 from rfl, Decidable.not_not, eq_self, lg_self]
  exact h5
set_option maxHeartbeats 4000000 in
theorem lc_3 {D L i : Nat} {X : Nat → Int} {w : ai_H} {k : Nat × Nat} {Q : Option Value → ai_H → Prop} (sr : SRc w L X) (hL : LI w) (iL : i + 7 ≤ L) (L0 : L ≤ 3584) (hk : k.1 ≤ 9000 ∧ k.2 ≤ 900000) (lo : ∀ j, -2147483648 ≤ X j) (hi : ∀ j, X j < 2147483648) (nx : ∀ w', SRc w' L X → LI w' → Ex (D + 61) mL_law 18 [some (.ref 1000300), some (.ref 0), some (.ref 47), some (.int (jI ((i + 7 : Nat) : Int)))] [] (k.1 + 3, k.2 + 165) w' Q) : Ex (D + 61) mL_law 331 [some (.ref 1000300), some (.ref 0), some (.ref 47), some (.int (jI i))] [] k w Q := by
  have s0 := sr.2.2.2.1
  have s47 := sr.2.2.2.2.1
  obtain ⟨g, h, im, mv, S, tn, tp, nt, T, hB, hA, hM⟩ := hL
  simp (disch := first | omega | assumption | exact gC_L ⟨by omega, by omega⟩ rfl | exact gC_L ⟨by show k.1 + 3 ≤ 10000; omega, by show k.2 + 165 ≤ 1000000; omega⟩ rfl) only [sL_law_331, sL_law_332, s0, s47, mI_msI, mI_msP, mI_msA, mP_msI, mP_msP, mP_msA, mS_msI, mS_msP, mS_msA, mN_msI, mN_msP, mN_msA, Option.toList_some, Option.toList_none, List.cons_append, List.nil_append, ai_rf_s, ai_rf_n, ai_kl_i, ai_kl_r, ai_kl_n, b2_0, b2_1, if_true, if_false, and_true, true_and, or_false, false_or, or_true, true_or, and_false, false_and, not_true_eq_false, not_false_eq_true, seval, jN, jI_add, jI_sub, jI_mul, jI_neg, jj_lt, jj_le, jj_eq, jj_div, jj_rem, jl_cl, b2_j0, b2_j1, show (0 : Int32) = jI 0 from rfl, show (1 : Int32) = jI 1 from rfl, show (2 : Int32) = jI 2 from rfl, show (3 : Int32) = jI 3 from rfl, show (4 : Int32) = jI 4 from rfl, show (5 : Int32) = jI 5 from rfl, show (6 : Int32) = jI 6 from rfl, show (7 : Int32) = jI 7 from rfl, show (63 : Int32) = jI 63 from rfl, Decidable.not_not, eq_self, lg_self]
  refine Cl.imp (Cl_sc (p_text hB hA hM )) (fun r w1 hh => ?_)
  obtain ⟨⟨z, rfl, hM1⟩, sc⟩ := hh
  have sr := sr.sc sc
  have s0 := sr.2.2.2.1
  have s47 := sr.2.2.2.2.1
  simp (disch := first | omega | assumption | exact gC_L ⟨by omega, by omega⟩ rfl | exact gC_L ⟨by show k.1 + 3 ≤ 10000; omega, by show k.2 + 165 ≤ 1000000; omega⟩ rfl) only [sL_law_335, sL_law_336, s0, s47, mI_msI, mI_msP, mI_msA, mP_msI, mP_msP, mP_msA, mS_msI, mS_msP, mS_msA, mN_msI, mN_msP, mN_msA, Option.toList_some, Option.toList_none, List.cons_append, List.nil_append, ai_rf_s, ai_rf_n, ai_kl_i, ai_kl_r, ai_kl_n, b2_0, b2_1, if_true, if_false, and_true, true_and, or_false, false_or, or_true, true_or, and_false, false_and, not_true_eq_false, not_false_eq_true, seval, jN, jI_add, jI_sub, jI_mul, jI_neg, jj_lt, jj_le, jj_eq, jj_div, jj_rem, jl_cl, b2_j0, b2_j1, show (0 : Int32) = jI 0 from rfl, show (1 : Int32) = jI 1 from rfl, show (2 : Int32) = jI 2 from rfl, show (3 : Int32) = jI 3 from rfl, show (4 : Int32) = jI 4 from rfl, show (5 : Int32) = jI 5 from rfl, show (6 : Int32) = jI 6 from rfl, show (7 : Int32) = jI 7 from rfl, show (63 : Int32) = jI 63 from rfl, Decidable.not_not, eq_self, lg_self]
  refine Cl.imp (Cl_sc hM1) (fun r2 w2 hh2 => ?_)
  obtain ⟨⟨rfl, L2⟩, sc2⟩ := hh2
  have h5 := nx w2 (sr.sc sc2) L2
  rw [Int.natCast_add] at h5
  simp (disch := first | omega | assumption | exact gC_L ⟨by omega, by omega⟩ rfl | exact gC_L ⟨by show k.1 + 3 ≤ 10000; omega, by show k.2 + 165 ≤ 1000000; omega⟩ rfl) only [sL_law_339, sL_law_342, sL_law_343, sL_law_1488, sL_law_1491, mI_msI, mI_msP, mI_msA, mP_msI, mP_msP, mP_msA, mS_msI, mS_msP, mS_msA, mN_msI, mN_msP, mN_msA, Option.toList_some, Option.toList_none, List.cons_append, List.nil_append, ai_rf_s, ai_rf_n, ai_kl_i, ai_kl_r, ai_kl_n, b2_0, b2_1, if_true, if_false, and_true, true_and, or_false, false_or, or_true, true_or, and_false, false_and, not_true_eq_false, not_false_eq_true, seval, jN, jI_add, jI_sub, jI_mul, jI_neg, jj_lt, jj_le, jj_eq, jj_div, jj_rem, jl_cl, b2_j0, b2_j1, show (0 : Int32) = jI 0 from rfl, show (1 : Int32) = jI 1 from rfl, show (2 : Int32) = jI 2 from rfl, show (3 : Int32) = jI 3 from rfl, show (4 : Int32) = jI 4 from rfl, show (5 : Int32) = jI 5 from rfl, show (6 : Int32) = jI 6 from rfl, show (7 : Int32) = jI 7 from rfl, show (63 : Int32) = jI 63 from rfl, Decidable.not_not, eq_self, lg_self]
  exact h5
set_option maxHeartbeats 4000000 in
theorem lc_4 {D L i : Nat} {X : Nat → Int} {w : ai_H} {k : Nat × Nat} {Q : Option Value → ai_H → Prop} (sr : SRc w L X) (hL : LI w) (iL : i + 7 ≤ L) (L0 : L ≤ 3584) (hk : k.1 ≤ 9000 ∧ k.2 ≤ 900000) (lo : ∀ j, -2147483648 ≤ X j) (hi : ∀ j, X j < 2147483648) (nx : ∀ w', SRc w' L X → LI w' → Ex (D + 61) mL_law 18 [some (.ref 1000300), some (.ref 0), some (.ref 47), some (.int (jI ((i + 7 : Nat) : Int)))] [] k w' Q) : Ex (D + 61) mL_law 344 [some (.ref 1000300), some (.ref 0), some (.ref 47), some (.int (jI i))] [] k w Q := by
  have s0 := sr.2.2.2.1
  have s47 := sr.2.2.2.2.1
  have e1 := sr.v (j := (i : Int) + 1) (n := i + 1) (by omega)
  have g1 := sr.g L0 (j := (i : Int) + 1) (by omega) (by omega)
  obtain ⟨g, h, im, mv, S, tn, tp, nt, T, hB, hA, hM⟩ := hL
  simp (disch := first | omega | assumption | exact gC_L ⟨by omega, by omega⟩ rfl | exact gC_L ⟨by show k.1 + 3 ≤ 10000; omega, by show k.2 + 165 ≤ 1000000; omega⟩ rfl) only [sL_law_344, sL_law_345, sL_law_346, sL_law_347, sL_law_348, sL_law_349, sL_law_350, e1, g1, s0, s47, mI_msI, mI_msP, mI_msA, mP_msI, mP_msP, mP_msA, mS_msI, mS_msP, mS_msA, mN_msI, mN_msP, mN_msA, Option.toList_some, Option.toList_none, List.cons_append, List.nil_append, ai_rf_s, ai_rf_n, ai_kl_i, ai_kl_r, ai_kl_n, b2_0, b2_1, if_true, if_false, and_true, true_and, or_false, false_or, or_true, true_or, and_false, false_and, not_true_eq_false, not_false_eq_true, seval, jN, jI_add, jI_sub, jI_mul, jI_neg, jj_lt, jj_le, jj_eq, jj_div, jj_rem, jl_cl, b2_j0, b2_j1, show (0 : Int32) = jI 0 from rfl, show (1 : Int32) = jI 1 from rfl, show (2 : Int32) = jI 2 from rfl, show (3 : Int32) = jI 3 from rfl, show (4 : Int32) = jI 4 from rfl, show (5 : Int32) = jI 5 from rfl, show (6 : Int32) = jI 6 from rfl, show (7 : Int32) = jI 7 from rfl, show (63 : Int32) = jI 63 from rfl, Decidable.not_not, eq_self, lg_self]
  refine Cl.imp (Cl_sc (p_force hB hA hM (lo (i + 1)) (hi (i + 1)))) (fun r w1 hh => ?_)
  obtain ⟨⟨z, rfl, hM1⟩, sc⟩ := hh
  have sr := sr.sc sc
  have s0 := sr.2.2.2.1
  have s47 := sr.2.2.2.2.1
  have e1 := sr.v (j := (i : Int) + 1) (n := i + 1) (by omega)
  have g1 := sr.g L0 (j := (i : Int) + 1) (by omega) (by omega)
  simp (disch := first | omega | assumption | exact gC_L ⟨by omega, by omega⟩ rfl | exact gC_L ⟨by show k.1 + 3 ≤ 10000; omega, by show k.2 + 165 ≤ 1000000; omega⟩ rfl) only [sL_law_353, sL_law_354, sL_law_355, sL_law_356, sL_law_357, sL_law_358, sL_law_359, e1, g1, s0, s47, mI_msI, mI_msP, mI_msA, mP_msI, mP_msP, mP_msA, mS_msI, mS_msP, mS_msA, mN_msI, mN_msP, mN_msA, Option.toList_some, Option.toList_none, List.cons_append, List.nil_append, ai_rf_s, ai_rf_n, ai_kl_i, ai_kl_r, ai_kl_n, b2_0, b2_1, if_true, if_false, and_true, true_and, or_false, false_or, or_true, true_or, and_false, false_and, not_true_eq_false, not_false_eq_true, seval, jN, jI_add, jI_sub, jI_mul, jI_neg, jj_lt, jj_le, jj_eq, jj_div, jj_rem, jl_cl, b2_j0, b2_j1, show (0 : Int32) = jI 0 from rfl, show (1 : Int32) = jI 1 from rfl, show (2 : Int32) = jI 2 from rfl, show (3 : Int32) = jI 3 from rfl, show (4 : Int32) = jI 4 from rfl, show (5 : Int32) = jI 5 from rfl, show (6 : Int32) = jI 6 from rfl, show (7 : Int32) = jI 7 from rfl, show (63 : Int32) = jI 63 from rfl, Decidable.not_not, eq_self, lg_self]
  refine Cl.imp (Cl_sc hM1) (fun r2 w2 hh2 => ?_)
  obtain ⟨⟨rfl, L2⟩, sc2⟩ := hh2
  have h5 := nx w2 (sr.sc sc2) L2
  rw [Int.natCast_add] at h5
  simp (disch := first | omega | assumption | exact gC_L ⟨by omega, by omega⟩ rfl | exact gC_L ⟨by show k.1 + 3 ≤ 10000; omega, by show k.2 + 165 ≤ 1000000; omega⟩ rfl) only [sL_law_362, sL_law_365, sL_law_366, sL_law_1488, sL_law_1491, mI_msI, mI_msP, mI_msA, mP_msI, mP_msP, mP_msA, mS_msI, mS_msP, mS_msA, mN_msI, mN_msP, mN_msA, Option.toList_some, Option.toList_none, List.cons_append, List.nil_append, ai_rf_s, ai_rf_n, ai_kl_i, ai_kl_r, ai_kl_n, b2_0, b2_1, if_true, if_false, and_true, true_and, or_false, false_or, or_true, true_or, and_false, false_and, not_true_eq_false, not_false_eq_true, seval, jN, jI_add, jI_sub, jI_mul, jI_neg, jj_lt, jj_le, jj_eq, jj_div, jj_rem, jl_cl, b2_j0, b2_j1, show (0 : Int32) = jI 0 from rfl, show (1 : Int32) = jI 1 from rfl, show (2 : Int32) = jI 2 from rfl, show (3 : Int32) = jI 3 from rfl, show (4 : Int32) = jI 4 from rfl, show (5 : Int32) = jI 5 from rfl, show (6 : Int32) = jI 6 from rfl, show (7 : Int32) = jI 7 from rfl, show (63 : Int32) = jI 63 from rfl, Decidable.not_not, eq_self, lg_self]
  exact h5
set_option maxHeartbeats 4000000 in
theorem lc_5 {D L i : Nat} {X : Nat → Int} {w : ai_H} {k : Nat × Nat} {Q : Option Value → ai_H → Prop} (sr : SRc w L X) (hL : LI w) (iL : i + 7 ≤ L) (L0 : L ≤ 3584) (hk : k.1 ≤ 9000 ∧ k.2 ≤ 900000) (lo : ∀ j, -2147483648 ≤ X j) (hi : ∀ j, X j < 2147483648) (nx : ∀ w', SRc w' L X → LI w' → Ex (D + 61) mL_law 18 [some (.ref 1000300), some (.ref 0), some (.ref 47), some (.int (jI ((i + 7 : Nat) : Int)))] [] k w' Q) : Ex (D + 61) mL_law 367 [some (.ref 1000300), some (.ref 0), some (.ref 47), some (.int (jI i))] [] k w Q := by
  have s0 := sr.2.2.2.1
  have s47 := sr.2.2.2.2.1
  have e1 := sr.v (j := (i : Int) + 1) (n := i + 1) (by omega)
  have g1 := sr.g L0 (j := (i : Int) + 1) (by omega) (by omega)
  have e2 := sr.v (j := (i : Int) + 2) (n := i + 2) (by omega)
  have g2 := sr.g L0 (j := (i : Int) + 2) (by omega) (by omega)
  have e3 := sr.v (j := (i : Int) + 3) (n := i + 3) (by omega)
  have g3 := sr.g L0 (j := (i : Int) + 3) (by omega) (by omega)
  have e4 := sr.v (j := (i : Int) + 4) (n := i + 4) (by omega)
  have g4 := sr.g L0 (j := (i : Int) + 4) (by omega) (by omega)
  obtain ⟨g, h, im, mv, S, tn, tp, nt, T, hB, hA, hM⟩ := hL
  simp (disch := first | omega | assumption | exact gC_L ⟨by omega, by omega⟩ rfl | exact gC_L ⟨by show k.1 + 3 ≤ 10000; omega, by show k.2 + 165 ≤ 1000000; omega⟩ rfl) only [sL_law_367, sL_law_368, sL_law_369, sL_law_370, sL_law_371, sL_law_372, sL_law_373, sL_law_374, sL_law_375, sL_law_376, sL_law_377, sL_law_378, sL_law_379, sL_law_380, sL_law_381, sL_law_382, sL_law_383, sL_law_384, sL_law_385, sL_law_386, sL_law_387, sL_law_388, e1, g1, e2, g2, e3, g3, e4, g4, s0, s47, mI_msI, mI_msP, mI_msA, mP_msI, mP_msP, mP_msA, mS_msI, mS_msP, mS_msA, mN_msI, mN_msP, mN_msA, Option.toList_some, Option.toList_none, List.cons_append, List.nil_append, ai_rf_s, ai_rf_n, ai_kl_i, ai_kl_r, ai_kl_n, b2_0, b2_1, if_true, if_false, and_true, true_and, or_false, false_or, or_true, true_or, and_false, false_and, not_true_eq_false, not_false_eq_true, seval, jN, jI_add, jI_sub, jI_mul, jI_neg, jj_lt, jj_le, jj_eq, jj_div, jj_rem, jl_cl, b2_j0, b2_j1, show (0 : Int32) = jI 0 from rfl, show (1 : Int32) = jI 1 from rfl, show (2 : Int32) = jI 2 from rfl, show (3 : Int32) = jI 3 from rfl, show (4 : Int32) = jI 4 from rfl, show (5 : Int32) = jI 5 from rfl, show (6 : Int32) = jI 6 from rfl, show (7 : Int32) = jI 7 from rfl, show (63 : Int32) = jI 63 from rfl, Decidable.not_not, eq_self, lg_self]
  refine Cl.imp (Cl_sc (p_asks hB hA hM (lo (i + 1)) (hi (i + 1)) (lo (i + 2)) (hi (i + 2)) (lo (i + 3)) (hi (i + 3)) (lo (i + 4)) (hi (i + 4)))) (fun r w1 hh => ?_)
  obtain ⟨⟨z, rfl, hM1⟩, sc⟩ := hh
  have sr := sr.sc sc
  have s0 := sr.2.2.2.1
  have s47 := sr.2.2.2.2.1
  have e1 := sr.v (j := (i : Int) + 1) (n := i + 1) (by omega)
  have g1 := sr.g L0 (j := (i : Int) + 1) (by omega) (by omega)
  have e2 := sr.v (j := (i : Int) + 2) (n := i + 2) (by omega)
  have g2 := sr.g L0 (j := (i : Int) + 2) (by omega) (by omega)
  have e3 := sr.v (j := (i : Int) + 3) (n := i + 3) (by omega)
  have g3 := sr.g L0 (j := (i : Int) + 3) (by omega) (by omega)
  have e4 := sr.v (j := (i : Int) + 4) (n := i + 4) (by omega)
  have g4 := sr.g L0 (j := (i : Int) + 4) (by omega) (by omega)
  simp (disch := first | omega | assumption | exact gC_L ⟨by omega, by omega⟩ rfl | exact gC_L ⟨by show k.1 + 3 ≤ 10000; omega, by show k.2 + 165 ≤ 1000000; omega⟩ rfl) only [sL_law_391, sL_law_392, sL_law_393, sL_law_394, sL_law_395, sL_law_396, sL_law_397, sL_law_398, sL_law_399, sL_law_400, sL_law_401, sL_law_402, sL_law_403, sL_law_404, sL_law_405, sL_law_406, sL_law_407, sL_law_408, sL_law_409, sL_law_410, sL_law_411, sL_law_412, e1, g1, e2, g2, e3, g3, e4, g4, s0, s47, mI_msI, mI_msP, mI_msA, mP_msI, mP_msP, mP_msA, mS_msI, mS_msP, mS_msA, mN_msI, mN_msP, mN_msA, Option.toList_some, Option.toList_none, List.cons_append, List.nil_append, ai_rf_s, ai_rf_n, ai_kl_i, ai_kl_r, ai_kl_n, b2_0, b2_1, if_true, if_false, and_true, true_and, or_false, false_or, or_true, true_or, and_false, false_and, not_true_eq_false, not_false_eq_true, seval, jN, jI_add, jI_sub, jI_mul, jI_neg, jj_lt, jj_le, jj_eq, jj_div, jj_rem, jl_cl, b2_j0, b2_j1, show (0 : Int32) = jI 0 from rfl, show (1 : Int32) = jI 1 from rfl, show (2 : Int32) = jI 2 from rfl, show (3 : Int32) = jI 3 from rfl, show (4 : Int32) = jI 4 from rfl, show (5 : Int32) = jI 5 from rfl, show (6 : Int32) = jI 6 from rfl, show (7 : Int32) = jI 7 from rfl, show (63 : Int32) = jI 63 from rfl, Decidable.not_not, eq_self, lg_self]
  refine Cl.imp (Cl_sc hM1) (fun r2 w2 hh2 => ?_)
  obtain ⟨⟨rfl, L2⟩, sc2⟩ := hh2
  have h5 := nx w2 (sr.sc sc2) L2
  rw [Int.natCast_add] at h5
  simp (disch := first | omega | assumption | exact gC_L ⟨by omega, by omega⟩ rfl | exact gC_L ⟨by show k.1 + 3 ≤ 10000; omega, by show k.2 + 165 ≤ 1000000; omega⟩ rfl) only [sL_law_415, sL_law_418, sL_law_419, sL_law_1488, sL_law_1491, mI_msI, mI_msP, mI_msA, mP_msI, mP_msP, mP_msA, mS_msI, mS_msP, mS_msA, mN_msI, mN_msP, mN_msA, Option.toList_some, Option.toList_none, List.cons_append, List.nil_append, ai_rf_s, ai_rf_n, ai_kl_i, ai_kl_r, ai_kl_n, b2_0, b2_1, if_true, if_false, and_true, true_and, or_false, false_or, or_true, true_or, and_false, false_and, not_true_eq_false, not_false_eq_true, seval, jN, jI_add, jI_sub, jI_mul, jI_neg, jj_lt, jj_le, jj_eq, jj_div, jj_rem, jl_cl, b2_j0, b2_j1, show (0 : Int32) = jI 0 from rfl, show (1 : Int32) = jI 1 from rfl, show (2 : Int32) = jI 2 from rfl, show (3 : Int32) = jI 3 from rfl, show (4 : Int32) = jI 4 from rfl, show (5 : Int32) = jI 5 from rfl, show (6 : Int32) = jI 6 from rfl, show (7 : Int32) = jI 7 from rfl, show (63 : Int32) = jI 63 from rfl, Decidable.not_not, eq_self, lg_self]
  exact h5
set_option maxHeartbeats 4000000 in
theorem lc_6 {D L i : Nat} {X : Nat → Int} {w : ai_H} {k : Nat × Nat} {Q : Option Value → ai_H → Prop} (sr : SRc w L X) (hL : LI w) (iL : i + 7 ≤ L) (L0 : L ≤ 3584) (hk : k.1 ≤ 9000 ∧ k.2 ≤ 900000) (lo : ∀ j, -2147483648 ≤ X j) (hi : ∀ j, X j < 2147483648) (nx : ∀ w', SRc w' L X → LI w' → Ex (D + 61) mL_law 18 [some (.ref 1000300), some (.ref 0), some (.ref 47), some (.int (jI ((i + 7 : Nat) : Int)))] [] k w' Q) : Ex (D + 61) mL_law 420 [some (.ref 1000300), some (.ref 0), some (.ref 47), some (.int (jI i))] [] k w Q := by
  have s0 := sr.2.2.2.1
  have s47 := sr.2.2.2.2.1
  have e1 := sr.v (j := (i : Int) + 1) (n := i + 1) (by omega)
  have g1 := sr.g L0 (j := (i : Int) + 1) (by omega) (by omega)
  have e2 := sr.v (j := (i : Int) + 2) (n := i + 2) (by omega)
  have g2 := sr.g L0 (j := (i : Int) + 2) (by omega) (by omega)
  obtain ⟨g, h, im, mv, S, tn, tp, nt, T, hB, hA, hM⟩ := hL
  simp (disch := first | omega | assumption | exact gC_L ⟨by omega, by omega⟩ rfl | exact gC_L ⟨by show k.1 + 3 ≤ 10000; omega, by show k.2 + 165 ≤ 1000000; omega⟩ rfl) only [sL_law_420, sL_law_421, sL_law_422, sL_law_423, sL_law_424, sL_law_425, sL_law_426, sL_law_427, sL_law_428, sL_law_429, sL_law_430, sL_law_431, e1, g1, e2, g2, s0, s47, mI_msI, mI_msP, mI_msA, mP_msI, mP_msP, mP_msA, mS_msI, mS_msP, mS_msA, mN_msI, mN_msP, mN_msA, Option.toList_some, Option.toList_none, List.cons_append, List.nil_append, ai_rf_s, ai_rf_n, ai_kl_i, ai_kl_r, ai_kl_n, b2_0, b2_1, if_true, if_false, and_true, true_and, or_false, false_or, or_true, true_or, and_false, false_and, not_true_eq_false, not_false_eq_true, seval, jN, jI_add, jI_sub, jI_mul, jI_neg, jj_lt, jj_le, jj_eq, jj_div, jj_rem, jl_cl, b2_j0, b2_j1, show (0 : Int32) = jI 0 from rfl, show (1 : Int32) = jI 1 from rfl, show (2 : Int32) = jI 2 from rfl, show (3 : Int32) = jI 3 from rfl, show (4 : Int32) = jI 4 from rfl, show (5 : Int32) = jI 5 from rfl, show (6 : Int32) = jI 6 from rfl, show (7 : Int32) = jI 7 from rfl, show (63 : Int32) = jI 63 from rfl, Decidable.not_not, eq_self, lg_self]
  refine Cl.imp (Cl_sc (p_envoy hB hA hM (lo (i + 1)) (hi (i + 1)) (lo (i + 2)) (hi (i + 2)))) (fun r w1 hh => ?_)
  obtain ⟨⟨z, rfl, hM1⟩, sc⟩ := hh
  have sr := sr.sc sc
  have s0 := sr.2.2.2.1
  have s47 := sr.2.2.2.2.1
  have e1 := sr.v (j := (i : Int) + 1) (n := i + 1) (by omega)
  have g1 := sr.g L0 (j := (i : Int) + 1) (by omega) (by omega)
  have e2 := sr.v (j := (i : Int) + 2) (n := i + 2) (by omega)
  have g2 := sr.g L0 (j := (i : Int) + 2) (by omega) (by omega)
  simp (disch := first | omega | assumption | exact gC_L ⟨by omega, by omega⟩ rfl | exact gC_L ⟨by show k.1 + 3 ≤ 10000; omega, by show k.2 + 165 ≤ 1000000; omega⟩ rfl) only [sL_law_434, sL_law_435, sL_law_436, sL_law_437, sL_law_438, sL_law_439, sL_law_440, sL_law_441, sL_law_442, sL_law_443, sL_law_444, sL_law_445, e1, g1, e2, g2, s0, s47, mI_msI, mI_msP, mI_msA, mP_msI, mP_msP, mP_msA, mS_msI, mS_msP, mS_msA, mN_msI, mN_msP, mN_msA, Option.toList_some, Option.toList_none, List.cons_append, List.nil_append, ai_rf_s, ai_rf_n, ai_kl_i, ai_kl_r, ai_kl_n, b2_0, b2_1, if_true, if_false, and_true, true_and, or_false, false_or, or_true, true_or, and_false, false_and, not_true_eq_false, not_false_eq_true, seval, jN, jI_add, jI_sub, jI_mul, jI_neg, jj_lt, jj_le, jj_eq, jj_div, jj_rem, jl_cl, b2_j0, b2_j1, show (0 : Int32) = jI 0 from rfl, show (1 : Int32) = jI 1 from rfl, show (2 : Int32) = jI 2 from rfl, show (3 : Int32) = jI 3 from rfl, show (4 : Int32) = jI 4 from rfl, show (5 : Int32) = jI 5 from rfl, show (6 : Int32) = jI 6 from rfl, show (7 : Int32) = jI 7 from rfl, show (63 : Int32) = jI 63 from rfl, Decidable.not_not, eq_self, lg_self]
  refine Cl.imp (Cl_sc hM1) (fun r2 w2 hh2 => ?_)
  obtain ⟨⟨rfl, L2⟩, sc2⟩ := hh2
  have h5 := nx w2 (sr.sc sc2) L2
  rw [Int.natCast_add] at h5
  simp (disch := first | omega | assumption | exact gC_L ⟨by omega, by omega⟩ rfl | exact gC_L ⟨by show k.1 + 3 ≤ 10000; omega, by show k.2 + 165 ≤ 1000000; omega⟩ rfl) only [sL_law_448, sL_law_451, sL_law_452, sL_law_1488, sL_law_1491, mI_msI, mI_msP, mI_msA, mP_msI, mP_msP, mP_msA, mS_msI, mS_msP, mS_msA, mN_msI, mN_msP, mN_msA, Option.toList_some, Option.toList_none, List.cons_append, List.nil_append, ai_rf_s, ai_rf_n, ai_kl_i, ai_kl_r, ai_kl_n, b2_0, b2_1, if_true, if_false, and_true, true_and, or_false, false_or, or_true, true_or, and_false, false_and, not_true_eq_false, not_false_eq_true, seval, jN, jI_add, jI_sub, jI_mul, jI_neg, jj_lt, jj_le, jj_eq, jj_div, jj_rem, jl_cl, b2_j0, b2_j1, show (0 : Int32) = jI 0 from rfl, show (1 : Int32) = jI 1 from rfl, show (2 : Int32) = jI 2 from rfl, show (3 : Int32) = jI 3 from rfl, show (4 : Int32) = jI 4 from rfl, show (5 : Int32) = jI 5 from rfl, show (6 : Int32) = jI 6 from rfl, show (7 : Int32) = jI 7 from rfl, show (63 : Int32) = jI 63 from rfl, Decidable.not_not, eq_self, lg_self]
  exact h5
set_option maxHeartbeats 4000000 in
theorem lc_7 {D L i : Nat} {X : Nat → Int} {w : ai_H} {k : Nat × Nat} {Q : Option Value → ai_H → Prop} (sr : SRc w L X) (hL : LI w) (iL : i + 7 ≤ L) (L0 : L ≤ 3584) (hk : k.1 ≤ 9000 ∧ k.2 ≤ 900000) (lo : ∀ j, -2147483648 ≤ X j) (hi : ∀ j, X j < 2147483648) (nx : ∀ w', SRc w' L X → LI w' → Ex (D + 61) mL_law 18 [some (.ref 1000300), some (.ref 0), some (.ref 47), some (.int (jI ((i + 7 : Nat) : Int)))] [] k w' Q) : Ex (D + 61) mL_law 453 [some (.ref 1000300), some (.ref 0), some (.ref 47), some (.int (jI i))] [] k w Q := by
  have s0 := sr.2.2.2.1
  have s47 := sr.2.2.2.2.1
  have e1 := sr.v (j := (i : Int) + 1) (n := i + 1) (by omega)
  have g1 := sr.g L0 (j := (i : Int) + 1) (by omega) (by omega)
  have e2 := sr.v (j := (i : Int) + 2) (n := i + 2) (by omega)
  have g2 := sr.g L0 (j := (i : Int) + 2) (by omega) (by omega)
  obtain ⟨g, h, im, mv, S, tn, tp, nt, T, hB, hA, hM⟩ := hL
  simp (disch := first | omega | assumption | exact gC_L ⟨by omega, by omega⟩ rfl | exact gC_L ⟨by show k.1 + 3 ≤ 10000; omega, by show k.2 + 165 ≤ 1000000; omega⟩ rfl) only [sL_law_453, sL_law_454, sL_law_455, sL_law_456, sL_law_457, sL_law_458, sL_law_459, sL_law_460, sL_law_461, sL_law_462, sL_law_463, sL_law_464, e1, g1, e2, g2, s0, s47, mI_msI, mI_msP, mI_msA, mP_msI, mP_msP, mP_msA, mS_msI, mS_msP, mS_msA, mN_msI, mN_msP, mN_msA, Option.toList_some, Option.toList_none, List.cons_append, List.nil_append, ai_rf_s, ai_rf_n, ai_kl_i, ai_kl_r, ai_kl_n, b2_0, b2_1, if_true, if_false, and_true, true_and, or_false, false_or, or_true, true_or, and_false, false_and, not_true_eq_false, not_false_eq_true, seval, jN, jI_add, jI_sub, jI_mul, jI_neg, jj_lt, jj_le, jj_eq, jj_div, jj_rem, jl_cl, b2_j0, b2_j1, show (0 : Int32) = jI 0 from rfl, show (1 : Int32) = jI 1 from rfl, show (2 : Int32) = jI 2 from rfl, show (3 : Int32) = jI 3 from rfl, show (4 : Int32) = jI 4 from rfl, show (5 : Int32) = jI 5 from rfl, show (6 : Int32) = jI 6 from rfl, show (7 : Int32) = jI 7 from rfl, show (63 : Int32) = jI 63 from rfl, Decidable.not_not, eq_self, lg_self]
  refine Cl.imp (Cl_sc (p_hope hB hA hM (lo (i + 1)) (hi (i + 1)) (lo (i + 2)) (hi (i + 2)))) (fun r w1 hh => ?_)
  obtain ⟨⟨z, rfl, hM1⟩, sc⟩ := hh
  have sr := sr.sc sc
  have s0 := sr.2.2.2.1
  have s47 := sr.2.2.2.2.1
  have e1 := sr.v (j := (i : Int) + 1) (n := i + 1) (by omega)
  have g1 := sr.g L0 (j := (i : Int) + 1) (by omega) (by omega)
  have e2 := sr.v (j := (i : Int) + 2) (n := i + 2) (by omega)
  have g2 := sr.g L0 (j := (i : Int) + 2) (by omega) (by omega)
  simp (disch := first | omega | assumption | exact gC_L ⟨by omega, by omega⟩ rfl | exact gC_L ⟨by show k.1 + 3 ≤ 10000; omega, by show k.2 + 165 ≤ 1000000; omega⟩ rfl) only [sL_law_467, sL_law_468, sL_law_469, sL_law_470, sL_law_471, sL_law_472, sL_law_473, sL_law_474, sL_law_475, sL_law_476, sL_law_477, sL_law_478, e1, g1, e2, g2, s0, s47, mI_msI, mI_msP, mI_msA, mP_msI, mP_msP, mP_msA, mS_msI, mS_msP, mS_msA, mN_msI, mN_msP, mN_msA, Option.toList_some, Option.toList_none, List.cons_append, List.nil_append, ai_rf_s, ai_rf_n, ai_kl_i, ai_kl_r, ai_kl_n, b2_0, b2_1, if_true, if_false, and_true, true_and, or_false, false_or, or_true, true_or, and_false, false_and, not_true_eq_false, not_false_eq_true, seval, jN, jI_add, jI_sub, jI_mul, jI_neg, jj_lt, jj_le, jj_eq, jj_div, jj_rem, jl_cl, b2_j0, b2_j1, show (0 : Int32) = jI 0 from rfl, show (1 : Int32) = jI 1 from rfl, show (2 : Int32) = jI 2 from rfl, show (3 : Int32) = jI 3 from rfl, show (4 : Int32) = jI 4 from rfl, show (5 : Int32) = jI 5 from rfl, show (6 : Int32) = jI 6 from rfl, show (7 : Int32) = jI 7 from rfl, show (63 : Int32) = jI 63 from rfl, Decidable.not_not, eq_self, lg_self]
  refine Cl.imp (Cl_sc hM1) (fun r2 w2 hh2 => ?_)
  obtain ⟨⟨rfl, L2⟩, sc2⟩ := hh2
  have h5 := nx w2 (sr.sc sc2) L2
  rw [Int.natCast_add] at h5
  simp (disch := first | omega | assumption | exact gC_L ⟨by omega, by omega⟩ rfl | exact gC_L ⟨by show k.1 + 3 ≤ 10000; omega, by show k.2 + 165 ≤ 1000000; omega⟩ rfl) only [sL_law_481, sL_law_484, sL_law_485, sL_law_1488, sL_law_1491, mI_msI, mI_msP, mI_msA, mP_msI, mP_msP, mP_msA, mS_msI, mS_msP, mS_msA, mN_msI, mN_msP, mN_msA, Option.toList_some, Option.toList_none, List.cons_append, List.nil_append, ai_rf_s, ai_rf_n, ai_kl_i, ai_kl_r, ai_kl_n, b2_0, b2_1, if_true, if_false, and_true, true_and, or_false, false_or, or_true, true_or, and_false, false_and, not_true_eq_false, not_false_eq_true, seval, jN, jI_add, jI_sub, jI_mul, jI_neg, jj_lt, jj_le, jj_eq, jj_div, jj_rem, jl_cl, b2_j0, b2_j1, show (0 : Int32) = jI 0 from rfl, show (1 : Int32) = jI 1 from rfl, show (2 : Int32) = jI 2 from rfl, show (3 : Int32) = jI 3 from rfl, show (4 : Int32) = jI 4 from rfl, show (5 : Int32) = jI 5 from rfl, show (6 : Int32) = jI 6 from rfl, show (7 : Int32) = jI 7 from rfl, show (63 : Int32) = jI 63 from rfl, Decidable.not_not, eq_self, lg_self]
  exact h5
set_option maxHeartbeats 4000000 in
theorem lc_8 {D L i : Nat} {X : Nat → Int} {w : ai_H} {k : Nat × Nat} {Q : Option Value → ai_H → Prop} (sr : SRc w L X) (hL : LI w) (iL : i + 7 ≤ L) (L0 : L ≤ 3584) (hk : k.1 ≤ 9000 ∧ k.2 ≤ 900000) (lo : ∀ j, -2147483648 ≤ X j) (hi : ∀ j, X j < 2147483648) (nx : ∀ w', SRc w' L X → LI w' → Ex (D + 61) mL_law 18 [some (.ref 1000300), some (.ref 0), some (.ref 47), some (.int (jI ((i + 7 : Nat) : Int)))] [] k w' Q) : Ex (D + 61) mL_law 486 [some (.ref 1000300), some (.ref 0), some (.ref 47), some (.int (jI i))] [] k w Q := by
  have s0 := sr.2.2.2.1
  have s47 := sr.2.2.2.2.1
  have e1 := sr.v (j := (i : Int) + 1) (n := i + 1) (by omega)
  have g1 := sr.g L0 (j := (i : Int) + 1) (by omega) (by omega)
  have e2 := sr.v (j := (i : Int) + 2) (n := i + 2) (by omega)
  have g2 := sr.g L0 (j := (i : Int) + 2) (by omega) (by omega)
  obtain ⟨g, h, im, mv, S, tn, tp, nt, T, hB, hA, hM⟩ := hL
  simp (disch := first | omega | assumption | exact gC_L ⟨by omega, by omega⟩ rfl | exact gC_L ⟨by show k.1 + 3 ≤ 10000; omega, by show k.2 + 165 ≤ 1000000; omega⟩ rfl) only [sL_law_486, sL_law_487, sL_law_488, sL_law_489, sL_law_490, sL_law_491, sL_law_492, sL_law_493, sL_law_494, sL_law_495, sL_law_496, sL_law_497, e1, g1, e2, g2, s0, s47, mI_msI, mI_msP, mI_msA, mP_msI, mP_msP, mP_msA, mS_msI, mS_msP, mS_msA, mN_msI, mN_msP, mN_msA, Option.toList_some, Option.toList_none, List.cons_append, List.nil_append, ai_rf_s, ai_rf_n, ai_kl_i, ai_kl_r, ai_kl_n, b2_0, b2_1, if_true, if_false, and_true, true_and, or_false, false_or, or_true, true_or, and_false, false_and, not_true_eq_false, not_false_eq_true, seval, jN, jI_add, jI_sub, jI_mul, jI_neg, jj_lt, jj_le, jj_eq, jj_div, jj_rem, jl_cl, b2_j0, b2_j1, show (0 : Int32) = jI 0 from rfl, show (1 : Int32) = jI 1 from rfl, show (2 : Int32) = jI 2 from rfl, show (3 : Int32) = jI 3 from rfl, show (4 : Int32) = jI 4 from rfl, show (5 : Int32) = jI 5 from rfl, show (6 : Int32) = jI 6 from rfl, show (7 : Int32) = jI 7 from rfl, show (63 : Int32) = jI 63 from rfl, Decidable.not_not, eq_self, lg_self]
  refine Cl.imp (Cl_sc (p_told hB hA hM (lo (i + 1)) (hi (i + 1)) (lo (i + 2)) (hi (i + 2)))) (fun r w1 hh => ?_)
  obtain ⟨⟨z, rfl, hM1⟩, sc⟩ := hh
  have sr := sr.sc sc
  have s0 := sr.2.2.2.1
  have s47 := sr.2.2.2.2.1
  have e1 := sr.v (j := (i : Int) + 1) (n := i + 1) (by omega)
  have g1 := sr.g L0 (j := (i : Int) + 1) (by omega) (by omega)
  have e2 := sr.v (j := (i : Int) + 2) (n := i + 2) (by omega)
  have g2 := sr.g L0 (j := (i : Int) + 2) (by omega) (by omega)
  simp (disch := first | omega | assumption | exact gC_L ⟨by omega, by omega⟩ rfl | exact gC_L ⟨by show k.1 + 3 ≤ 10000; omega, by show k.2 + 165 ≤ 1000000; omega⟩ rfl) only [sL_law_500, sL_law_501, sL_law_502, sL_law_503, sL_law_504, sL_law_505, sL_law_506, sL_law_507, sL_law_508, sL_law_509, sL_law_510, sL_law_511, e1, g1, e2, g2, s0, s47, mI_msI, mI_msP, mI_msA, mP_msI, mP_msP, mP_msA, mS_msI, mS_msP, mS_msA, mN_msI, mN_msP, mN_msA, Option.toList_some, Option.toList_none, List.cons_append, List.nil_append, ai_rf_s, ai_rf_n, ai_kl_i, ai_kl_r, ai_kl_n, b2_0, b2_1, if_true, if_false, and_true, true_and, or_false, false_or, or_true, true_or, and_false, false_and, not_true_eq_false, not_false_eq_true, seval, jN, jI_add, jI_sub, jI_mul, jI_neg, jj_lt, jj_le, jj_eq, jj_div, jj_rem, jl_cl, b2_j0, b2_j1, show (0 : Int32) = jI 0 from rfl, show (1 : Int32) = jI 1 from rfl, show (2 : Int32) = jI 2 from rfl, show (3 : Int32) = jI 3 from rfl, show (4 : Int32) = jI 4 from rfl, show (5 : Int32) = jI 5 from rfl, show (6 : Int32) = jI 6 from rfl, show (7 : Int32) = jI 7 from rfl, show (63 : Int32) = jI 63 from rfl, Decidable.not_not, eq_self, lg_self]
  refine Cl.imp (Cl_sc hM1) (fun r2 w2 hh2 => ?_)
  obtain ⟨⟨rfl, L2⟩, sc2⟩ := hh2
  have h5 := nx w2 (sr.sc sc2) L2
  rw [Int.natCast_add] at h5
  simp (disch := first | omega | assumption | exact gC_L ⟨by omega, by omega⟩ rfl | exact gC_L ⟨by show k.1 + 3 ≤ 10000; omega, by show k.2 + 165 ≤ 1000000; omega⟩ rfl) only [sL_law_514, sL_law_517, sL_law_518, sL_law_1488, sL_law_1491, mI_msI, mI_msP, mI_msA, mP_msI, mP_msP, mP_msA, mS_msI, mS_msP, mS_msA, mN_msI, mN_msP, mN_msA, Option.toList_some, Option.toList_none, List.cons_append, List.nil_append, ai_rf_s, ai_rf_n, ai_kl_i, ai_kl_r, ai_kl_n, b2_0, b2_1, if_true, if_false, and_true, true_and, or_false, false_or, or_true, true_or, and_false, false_and, not_true_eq_false, not_false_eq_true, seval, jN, jI_add, jI_sub, jI_mul, jI_neg, jj_lt, jj_le, jj_eq, jj_div, jj_rem, jl_cl, b2_j0, b2_j1, show (0 : Int32) = jI 0 from rfl, show (1 : Int32) = jI 1 from rfl, show (2 : Int32) = jI 2 from rfl, show (3 : Int32) = jI 3 from rfl, show (4 : Int32) = jI 4 from rfl, show (5 : Int32) = jI 5 from rfl, show (6 : Int32) = jI 6 from rfl, show (7 : Int32) = jI 7 from rfl, show (63 : Int32) = jI 63 from rfl, Decidable.not_not, eq_self, lg_self]
  exact h5
set_option maxHeartbeats 4000000 in
theorem lc_9 {D L i : Nat} {X : Nat → Int} {w : ai_H} {k : Nat × Nat} {Q : Option Value → ai_H → Prop} (sr : SRc w L X) (hL : LI w) (iL : i + 7 ≤ L) (L0 : L ≤ 3584) (hk : k.1 ≤ 9000 ∧ k.2 ≤ 900000) (lo : ∀ j, -2147483648 ≤ X j) (hi : ∀ j, X j < 2147483648) (nx : ∀ w', SRc w' L X → LI w' → Ex (D + 61) mL_law 18 [some (.ref 1000300), some (.ref 0), some (.ref 47), some (.int (jI ((i + 7 : Nat) : Int)))] [] k w' Q) : Ex (D + 61) mL_law 519 [some (.ref 1000300), some (.ref 0), some (.ref 47), some (.int (jI i))] [] k w Q := by
  have s0 := sr.2.2.2.1
  have s47 := sr.2.2.2.2.1
  have e1 := sr.v (j := (i : Int) + 1) (n := i + 1) (by omega)
  have g1 := sr.g L0 (j := (i : Int) + 1) (by omega) (by omega)
  obtain ⟨g, h, im, mv, S, tn, tp, nt, T, hB, hA, hM⟩ := hL
  simp (disch := first | omega | assumption | exact gC_L ⟨by omega, by omega⟩ rfl | exact gC_L ⟨by show k.1 + 3 ≤ 10000; omega, by show k.2 + 165 ≤ 1000000; omega⟩ rfl) only [sL_law_519, sL_law_520, sL_law_521, sL_law_522, sL_law_523, sL_law_524, sL_law_525, e1, g1, s0, s47, mI_msI, mI_msP, mI_msA, mP_msI, mP_msP, mP_msA, mS_msI, mS_msP, mS_msA, mN_msI, mN_msP, mN_msA, Option.toList_some, Option.toList_none, List.cons_append, List.nil_append, ai_rf_s, ai_rf_n, ai_kl_i, ai_kl_r, ai_kl_n, b2_0, b2_1, if_true, if_false, and_true, true_and, or_false, false_or, or_true, true_or, and_false, false_and, not_true_eq_false, not_false_eq_true, seval, jN, jI_add, jI_sub, jI_mul, jI_neg, jj_lt, jj_le, jj_eq, jj_div, jj_rem, jl_cl, b2_j0, b2_j1, show (0 : Int32) = jI 0 from rfl, show (1 : Int32) = jI 1 from rfl, show (2 : Int32) = jI 2 from rfl, show (3 : Int32) = jI 3 from rfl, show (4 : Int32) = jI 4 from rfl, show (5 : Int32) = jI 5 from rfl, show (6 : Int32) = jI 6 from rfl, show (7 : Int32) = jI 7 from rfl, show (63 : Int32) = jI 63 from rfl, Decidable.not_not, eq_self, lg_self]
  refine Cl.imp (Cl_sc (p_winner hB hA hM (lo (i + 1)) (hi (i + 1)))) (fun r w1 hh => ?_)
  obtain ⟨⟨z, rfl, hM1⟩, sc⟩ := hh
  have sr := sr.sc sc
  have s0 := sr.2.2.2.1
  have s47 := sr.2.2.2.2.1
  have e1 := sr.v (j := (i : Int) + 1) (n := i + 1) (by omega)
  have g1 := sr.g L0 (j := (i : Int) + 1) (by omega) (by omega)
  simp (disch := first | omega | assumption | exact gC_L ⟨by omega, by omega⟩ rfl | exact gC_L ⟨by show k.1 + 3 ≤ 10000; omega, by show k.2 + 165 ≤ 1000000; omega⟩ rfl) only [sL_law_528, sL_law_529, sL_law_530, sL_law_531, sL_law_532, sL_law_533, sL_law_534, e1, g1, s0, s47, mI_msI, mI_msP, mI_msA, mP_msI, mP_msP, mP_msA, mS_msI, mS_msP, mS_msA, mN_msI, mN_msP, mN_msA, Option.toList_some, Option.toList_none, List.cons_append, List.nil_append, ai_rf_s, ai_rf_n, ai_kl_i, ai_kl_r, ai_kl_n, b2_0, b2_1, if_true, if_false, and_true, true_and, or_false, false_or, or_true, true_or, and_false, false_and, not_true_eq_false, not_false_eq_true, seval, jN, jI_add, jI_sub, jI_mul, jI_neg, jj_lt, jj_le, jj_eq, jj_div, jj_rem, jl_cl, b2_j0, b2_j1, show (0 : Int32) = jI 0 from rfl, show (1 : Int32) = jI 1 from rfl, show (2 : Int32) = jI 2 from rfl, show (3 : Int32) = jI 3 from rfl, show (4 : Int32) = jI 4 from rfl, show (5 : Int32) = jI 5 from rfl, show (6 : Int32) = jI 6 from rfl, show (7 : Int32) = jI 7 from rfl, show (63 : Int32) = jI 63 from rfl, Decidable.not_not, eq_self, lg_self]
  refine Cl.imp (Cl_sc hM1) (fun r2 w2 hh2 => ?_)
  obtain ⟨⟨rfl, L2⟩, sc2⟩ := hh2
  have h5 := nx w2 (sr.sc sc2) L2
  rw [Int.natCast_add] at h5
  simp (disch := first | omega | assumption | exact gC_L ⟨by omega, by omega⟩ rfl | exact gC_L ⟨by show k.1 + 3 ≤ 10000; omega, by show k.2 + 165 ≤ 1000000; omega⟩ rfl) only [sL_law_537, sL_law_540, sL_law_541, sL_law_1488, sL_law_1491, mI_msI, mI_msP, mI_msA, mP_msI, mP_msP, mP_msA, mS_msI, mS_msP, mS_msA, mN_msI, mN_msP, mN_msA, Option.toList_some, Option.toList_none, List.cons_append, List.nil_append, ai_rf_s, ai_rf_n, ai_kl_i, ai_kl_r, ai_kl_n, b2_0, b2_1, if_true, if_false, and_true, true_and, or_false, false_or, or_true, true_or, and_false, false_and, not_true_eq_false, not_false_eq_true, seval, jN, jI_add, jI_sub, jI_mul, jI_neg, jj_lt, jj_le, jj_eq, jj_div, jj_rem, jl_cl, b2_j0, b2_j1, show (0 : Int32) = jI 0 from rfl, show (1 : Int32) = jI 1 from rfl, show (2 : Int32) = jI 2 from rfl, show (3 : Int32) = jI 3 from rfl, show (4 : Int32) = jI 4 from rfl, show (5 : Int32) = jI 5 from rfl, show (6 : Int32) = jI 6 from rfl, show (7 : Int32) = jI 7 from rfl, show (63 : Int32) = jI 63 from rfl, Decidable.not_not, eq_self, lg_self]
  exact h5
set_option maxHeartbeats 4000000 in
theorem lc_10 {D L i : Nat} {X : Nat → Int} {w : ai_H} {k : Nat × Nat} {Q : Option Value → ai_H → Prop} (sr : SRc w L X) (hL : LI w) (iL : i + 7 ≤ L) (L0 : L ≤ 3584) (hk : k.1 ≤ 9000 ∧ k.2 ≤ 900000) (lo : ∀ j, -2147483648 ≤ X j) (hi : ∀ j, X j < 2147483648) (nx : ∀ w', SRc w' L X → LI w' → Ex (D + 61) mL_law 18 [some (.ref 1000300), some (.ref 0), some (.ref 47), some (.int (jI ((i + 7 : Nat) : Int)))] [] k w' Q) : Ex (D + 61) mL_law 542 [some (.ref 1000300), some (.ref 0), some (.ref 47), some (.int (jI i))] [] k w Q := by
  have s0 := sr.2.2.2.1
  have s47 := sr.2.2.2.2.1
  obtain ⟨g, h, im, mv, S, tn, tp, nt, T, hB, hA, hM⟩ := hL
  simp (disch := first | omega | assumption | exact gC_L ⟨by omega, by omega⟩ rfl | exact gC_L ⟨by show k.1 + 3 ≤ 10000; omega, by show k.2 + 165 ≤ 1000000; omega⟩ rfl) only [sL_law_542, sL_law_543, s0, s47, mI_msI, mI_msP, mI_msA, mP_msI, mP_msP, mP_msA, mS_msI, mS_msP, mS_msA, mN_msI, mN_msP, mN_msA, Option.toList_some, Option.toList_none, List.cons_append, List.nil_append, ai_rf_s, ai_rf_n, ai_kl_i, ai_kl_r, ai_kl_n, b2_0, b2_1, if_true, if_false, and_true, true_and, or_false, false_or, or_true, true_or, and_false, false_and, not_true_eq_false, not_false_eq_true, seval, jN, jI_add, jI_sub, jI_mul, jI_neg, jj_lt, jj_le, jj_eq, jj_div, jj_rem, jl_cl, b2_j0, b2_j1, show (0 : Int32) = jI 0 from rfl, show (1 : Int32) = jI 1 from rfl, show (2 : Int32) = jI 2 from rfl, show (3 : Int32) = jI 3 from rfl, show (4 : Int32) = jI 4 from rfl, show (5 : Int32) = jI 5 from rfl, show (6 : Int32) = jI 6 from rfl, show (7 : Int32) = jI 7 from rfl, show (63 : Int32) = jI 63 from rfl, Decidable.not_not, eq_self, lg_self]
  refine Cl.imp (Cl_sc (p_next hB hA hM )) (fun r w1 hh => ?_)
  obtain ⟨⟨z, rfl, hM1⟩, sc⟩ := hh
  have sr := sr.sc sc
  have s0 := sr.2.2.2.1
  have s47 := sr.2.2.2.2.1
  simp (disch := first | omega | assumption | exact gC_L ⟨by omega, by omega⟩ rfl | exact gC_L ⟨by show k.1 + 3 ≤ 10000; omega, by show k.2 + 165 ≤ 1000000; omega⟩ rfl) only [sL_law_546, sL_law_547, s0, s47, mI_msI, mI_msP, mI_msA, mP_msI, mP_msP, mP_msA, mS_msI, mS_msP, mS_msA, mN_msI, mN_msP, mN_msA, Option.toList_some, Option.toList_none, List.cons_append, List.nil_append, ai_rf_s, ai_rf_n, ai_kl_i, ai_kl_r, ai_kl_n, b2_0, b2_1, if_true, if_false, and_true, true_and, or_false, false_or, or_true, true_or, and_false, false_and, not_true_eq_false, not_false_eq_true, seval, jN, jI_add, jI_sub, jI_mul, jI_neg, jj_lt, jj_le, jj_eq, jj_div, jj_rem, jl_cl, b2_j0, b2_j1, show (0 : Int32) = jI 0 from rfl, show (1 : Int32) = jI 1 from rfl, show (2 : Int32) = jI 2 from rfl, show (3 : Int32) = jI 3 from rfl, show (4 : Int32) = jI 4 from rfl, show (5 : Int32) = jI 5 from rfl, show (6 : Int32) = jI 6 from rfl, show (7 : Int32) = jI 7 from rfl, show (63 : Int32) = jI 63 from rfl, Decidable.not_not, eq_self, lg_self]
  refine Cl.imp (Cl_sc hM1) (fun r2 w2 hh2 => ?_)
  obtain ⟨⟨rfl, L2⟩, sc2⟩ := hh2
  have h5 := nx w2 (sr.sc sc2) L2
  rw [Int.natCast_add] at h5
  simp (disch := first | omega | assumption | exact gC_L ⟨by omega, by omega⟩ rfl | exact gC_L ⟨by show k.1 + 3 ≤ 10000; omega, by show k.2 + 165 ≤ 1000000; omega⟩ rfl) only [sL_law_550, sL_law_553, sL_law_554, sL_law_1488, sL_law_1491, mI_msI, mI_msP, mI_msA, mP_msI, mP_msP, mP_msA, mS_msI, mS_msP, mS_msA, mN_msI, mN_msP, mN_msA, Option.toList_some, Option.toList_none, List.cons_append, List.nil_append, ai_rf_s, ai_rf_n, ai_kl_i, ai_kl_r, ai_kl_n, b2_0, b2_1, if_true, if_false, and_true, true_and, or_false, false_or, or_true, true_or, and_false, false_and, not_true_eq_false, not_false_eq_true, seval, jN, jI_add, jI_sub, jI_mul, jI_neg, jj_lt, jj_le, jj_eq, jj_div, jj_rem, jl_cl, b2_j0, b2_j1, show (0 : Int32) = jI 0 from rfl, show (1 : Int32) = jI 1 from rfl, show (2 : Int32) = jI 2 from rfl, show (3 : Int32) = jI 3 from rfl, show (4 : Int32) = jI 4 from rfl, show (5 : Int32) = jI 5 from rfl, show (6 : Int32) = jI 6 from rfl, show (7 : Int32) = jI 7 from rfl, show (63 : Int32) = jI 63 from rfl, Decidable.not_not, eq_self, lg_self]
  exact h5
set_option maxHeartbeats 4000000 in
theorem lc_11 {D L i : Nat} {X : Nat → Int} {w : ai_H} {k : Nat × Nat} {Q : Option Value → ai_H → Prop} (sr : SRc w L X) (hL : LI w) (iL : i + 7 ≤ L) (L0 : L ≤ 3584) (hk : k.1 ≤ 9000 ∧ k.2 ≤ 900000) (lo : ∀ j, -2147483648 ≤ X j) (hi : ∀ j, X j < 2147483648) (nx : ∀ w', SRc w' L X → LI w' → Ex (D + 61) mL_law 18 [some (.ref 1000300), some (.ref 0), some (.ref 47), some (.int (jI ((i + 7 : Nat) : Int)))] [] k w' Q) : Ex (D + 61) mL_law 555 [some (.ref 1000300), some (.ref 0), some (.ref 47), some (.int (jI i))] [] k w Q := by
  have s0 := sr.2.2.2.1
  have s47 := sr.2.2.2.2.1
  obtain ⟨g, h, im, mv, S, tn, tp, nt, T, hB, hA, hM⟩ := hL
  simp (disch := first | omega | assumption | exact gC_L ⟨by omega, by omega⟩ rfl | exact gC_L ⟨by show k.1 + 3 ≤ 10000; omega, by show k.2 + 165 ≤ 1000000; omega⟩ rfl) only [sL_law_555, sL_law_556, s0, s47, mI_msI, mI_msP, mI_msA, mP_msI, mP_msP, mP_msA, mS_msI, mS_msP, mS_msA, mN_msI, mN_msP, mN_msA, Option.toList_some, Option.toList_none, List.cons_append, List.nil_append, ai_rf_s, ai_rf_n, ai_kl_i, ai_kl_r, ai_kl_n, b2_0, b2_1, if_true, if_false, and_true, true_and, or_false, false_or, or_true, true_or, and_false, false_and, not_true_eq_false, not_false_eq_true, seval, jN, jI_add, jI_sub, jI_mul, jI_neg, jj_lt, jj_le, jj_eq, jj_div, jj_rem, jl_cl, b2_j0, b2_j1, show (0 : Int32) = jI 0 from rfl, show (1 : Int32) = jI 1 from rfl, show (2 : Int32) = jI 2 from rfl, show (3 : Int32) = jI 3 from rfl, show (4 : Int32) = jI 4 from rfl, show (5 : Int32) = jI 5 from rfl, show (6 : Int32) = jI 6 from rfl, show (7 : Int32) = jI 7 from rfl, show (63 : Int32) = jI 63 from rfl, Decidable.not_not, eq_self, lg_self]
  refine Cl.imp (Cl_sc (p_steps hB hA hM )) (fun r w1 hh => ?_)
  obtain ⟨⟨z, rfl, hM1⟩, sc⟩ := hh
  have sr := sr.sc sc
  have s0 := sr.2.2.2.1
  have s47 := sr.2.2.2.2.1
  simp (disch := first | omega | assumption | exact gC_L ⟨by omega, by omega⟩ rfl | exact gC_L ⟨by show k.1 + 3 ≤ 10000; omega, by show k.2 + 165 ≤ 1000000; omega⟩ rfl) only [sL_law_559, sL_law_560, s0, s47, mI_msI, mI_msP, mI_msA, mP_msI, mP_msP, mP_msA, mS_msI, mS_msP, mS_msA, mN_msI, mN_msP, mN_msA, Option.toList_some, Option.toList_none, List.cons_append, List.nil_append, ai_rf_s, ai_rf_n, ai_kl_i, ai_kl_r, ai_kl_n, b2_0, b2_1, if_true, if_false, and_true, true_and, or_false, false_or, or_true, true_or, and_false, false_and, not_true_eq_false, not_false_eq_true, seval, jN, jI_add, jI_sub, jI_mul, jI_neg, jj_lt, jj_le, jj_eq, jj_div, jj_rem, jl_cl, b2_j0, b2_j1, show (0 : Int32) = jI 0 from rfl, show (1 : Int32) = jI 1 from rfl, show (2 : Int32) = jI 2 from rfl, show (3 : Int32) = jI 3 from rfl, show (4 : Int32) = jI 4 from rfl, show (5 : Int32) = jI 5 from rfl, show (6 : Int32) = jI 6 from rfl, show (7 : Int32) = jI 7 from rfl, show (63 : Int32) = jI 63 from rfl, Decidable.not_not, eq_self, lg_self]
  refine Cl.imp (Cl_sc hM1) (fun r2 w2 hh2 => ?_)
  obtain ⟨⟨rfl, L2⟩, sc2⟩ := hh2
  have h5 := nx w2 (sr.sc sc2) L2
  rw [Int.natCast_add] at h5
  simp (disch := first | omega | assumption | exact gC_L ⟨by omega, by omega⟩ rfl | exact gC_L ⟨by show k.1 + 3 ≤ 10000; omega, by show k.2 + 165 ≤ 1000000; omega⟩ rfl) only [sL_law_563, sL_law_566, sL_law_567, sL_law_1488, sL_law_1491, mI_msI, mI_msP, mI_msA, mP_msI, mP_msP, mP_msA, mS_msI, mS_msP, mS_msA, mN_msI, mN_msP, mN_msA, Option.toList_some, Option.toList_none, List.cons_append, List.nil_append, ai_rf_s, ai_rf_n, ai_kl_i, ai_kl_r, ai_kl_n, b2_0, b2_1, if_true, if_false, and_true, true_and, or_false, false_or, or_true, true_or, and_false, false_and, not_true_eq_false, not_false_eq_true, seval, jN, jI_add, jI_sub, jI_mul, jI_neg, jj_lt, jj_le, jj_eq, jj_div, jj_rem, jl_cl, b2_j0, b2_j1, show (0 : Int32) = jI 0 from rfl, show (1 : Int32) = jI 1 from rfl, show (2 : Int32) = jI 2 from rfl, show (3 : Int32) = jI 3 from rfl, show (4 : Int32) = jI 4 from rfl, show (5 : Int32) = jI 5 from rfl, show (6 : Int32) = jI 6 from rfl, show (7 : Int32) = jI 7 from rfl, show (63 : Int32) = jI 63 from rfl, Decidable.not_not, eq_self, lg_self]
  exact h5
set_option maxHeartbeats 4000000 in
theorem lc_12 {D L i : Nat} {X : Nat → Int} {w : ai_H} {k : Nat × Nat} {Q : Option Value → ai_H → Prop} (sr : SRc w L X) (hL : LI w) (iL : i + 7 ≤ L) (L0 : L ≤ 3584) (hk : k.1 ≤ 9000 ∧ k.2 ≤ 900000) (lo : ∀ j, -2147483648 ≤ X j) (hi : ∀ j, X j < 2147483648) (nx : ∀ w', SRc w' L X → LI w' → Ex (D + 61) mL_law 18 [some (.ref 1000300), some (.ref 0), some (.ref 47), some (.int (jI ((i + 7 : Nat) : Int)))] [] k w' Q) : Ex (D + 61) mL_law 568 [some (.ref 1000300), some (.ref 0), some (.ref 47), some (.int (jI i))] [] k w Q := by
  have s0 := sr.2.2.2.1
  have s47 := sr.2.2.2.2.1
  have e1 := sr.v (j := (i : Int) + 1) (n := i + 1) (by omega)
  have g1 := sr.g L0 (j := (i : Int) + 1) (by omega) (by omega)
  have e2 := sr.v (j := (i : Int) + 2) (n := i + 2) (by omega)
  have g2 := sr.g L0 (j := (i : Int) + 2) (by omega) (by omega)
  obtain ⟨g, h, im, mv, S, tn, tp, nt, T, hB, hA, hM⟩ := hL
  simp (disch := first | omega | assumption | exact gC_L ⟨by omega, by omega⟩ rfl | exact gC_L ⟨by show k.1 + 3 ≤ 10000; omega, by show k.2 + 165 ≤ 1000000; omega⟩ rfl) only [sL_law_568, sL_law_569, sL_law_570, sL_law_571, sL_law_572, sL_law_573, sL_law_574, sL_law_575, sL_law_576, sL_law_577, sL_law_578, sL_law_579, e1, g1, e2, g2, s0, s47, mI_msI, mI_msP, mI_msA, mP_msI, mP_msP, mP_msA, mS_msI, mS_msP, mS_msA, mN_msI, mN_msP, mN_msA, Option.toList_some, Option.toList_none, List.cons_append, List.nil_append, ai_rf_s, ai_rf_n, ai_kl_i, ai_kl_r, ai_kl_n, b2_0, b2_1, if_true, if_false, and_true, true_and, or_false, false_or, or_true, true_or, and_false, false_and, not_true_eq_false, not_false_eq_true, seval, jN, jI_add, jI_sub, jI_mul, jI_neg, jj_lt, jj_le, jj_eq, jj_div, jj_rem, jl_cl, b2_j0, b2_j1, show (0 : Int32) = jI 0 from rfl, show (1 : Int32) = jI 1 from rfl, show (2 : Int32) = jI 2 from rfl, show (3 : Int32) = jI 3 from rfl, show (4 : Int32) = jI 4 from rfl, show (5 : Int32) = jI 5 from rfl, show (6 : Int32) = jI 6 from rfl, show (7 : Int32) = jI 7 from rfl, show (63 : Int32) = jI 63 from rfl, Decidable.not_not, eq_self, lg_self]
  refine Cl.imp (Cl_sc (p_move hB hA hM (lo (i + 1)) (hi (i + 1)) (lo (i + 2)) (hi (i + 2)))) (fun r w1 hh => ?_)
  obtain ⟨⟨z, rfl, hM1⟩, sc⟩ := hh
  have sr := sr.sc sc
  have s0 := sr.2.2.2.1
  have s47 := sr.2.2.2.2.1
  have e1 := sr.v (j := (i : Int) + 1) (n := i + 1) (by omega)
  have g1 := sr.g L0 (j := (i : Int) + 1) (by omega) (by omega)
  have e2 := sr.v (j := (i : Int) + 2) (n := i + 2) (by omega)
  have g2 := sr.g L0 (j := (i : Int) + 2) (by omega) (by omega)
  simp (disch := first | omega | assumption | exact gC_L ⟨by omega, by omega⟩ rfl | exact gC_L ⟨by show k.1 + 3 ≤ 10000; omega, by show k.2 + 165 ≤ 1000000; omega⟩ rfl) only [sL_law_582, sL_law_583, sL_law_584, sL_law_585, sL_law_586, sL_law_587, sL_law_588, sL_law_589, sL_law_590, sL_law_591, sL_law_592, sL_law_593, e1, g1, e2, g2, s0, s47, mI_msI, mI_msP, mI_msA, mP_msI, mP_msP, mP_msA, mS_msI, mS_msP, mS_msA, mN_msI, mN_msP, mN_msA, Option.toList_some, Option.toList_none, List.cons_append, List.nil_append, ai_rf_s, ai_rf_n, ai_kl_i, ai_kl_r, ai_kl_n, b2_0, b2_1, if_true, if_false, and_true, true_and, or_false, false_or, or_true, true_or, and_false, false_and, not_true_eq_false, not_false_eq_true, seval, jN, jI_add, jI_sub, jI_mul, jI_neg, jj_lt, jj_le, jj_eq, jj_div, jj_rem, jl_cl, b2_j0, b2_j1, show (0 : Int32) = jI 0 from rfl, show (1 : Int32) = jI 1 from rfl, show (2 : Int32) = jI 2 from rfl, show (3 : Int32) = jI 3 from rfl, show (4 : Int32) = jI 4 from rfl, show (5 : Int32) = jI 5 from rfl, show (6 : Int32) = jI 6 from rfl, show (7 : Int32) = jI 7 from rfl, show (63 : Int32) = jI 63 from rfl, Decidable.not_not, eq_self, lg_self]
  refine Cl.imp (Cl_sc hM1) (fun r2 w2 hh2 => ?_)
  obtain ⟨⟨rfl, L2⟩, sc2⟩ := hh2
  have h5 := nx w2 (sr.sc sc2) L2
  rw [Int.natCast_add] at h5
  simp (disch := first | omega | assumption | exact gC_L ⟨by omega, by omega⟩ rfl | exact gC_L ⟨by show k.1 + 3 ≤ 10000; omega, by show k.2 + 165 ≤ 1000000; omega⟩ rfl) only [sL_law_596, sL_law_599, sL_law_600, sL_law_1488, sL_law_1491, mI_msI, mI_msP, mI_msA, mP_msI, mP_msP, mP_msA, mS_msI, mS_msP, mS_msA, mN_msI, mN_msP, mN_msA, Option.toList_some, Option.toList_none, List.cons_append, List.nil_append, ai_rf_s, ai_rf_n, ai_kl_i, ai_kl_r, ai_kl_n, b2_0, b2_1, if_true, if_false, and_true, true_and, or_false, false_or, or_true, true_or, and_false, false_and, not_true_eq_false, not_false_eq_true, seval, jN, jI_add, jI_sub, jI_mul, jI_neg, jj_lt, jj_le, jj_eq, jj_div, jj_rem, jl_cl, b2_j0, b2_j1, show (0 : Int32) = jI 0 from rfl, show (1 : Int32) = jI 1 from rfl, show (2 : Int32) = jI 2 from rfl, show (3 : Int32) = jI 3 from rfl, show (4 : Int32) = jI 4 from rfl, show (5 : Int32) = jI 5 from rfl, show (6 : Int32) = jI 6 from rfl, show (7 : Int32) = jI 7 from rfl, show (63 : Int32) = jI 63 from rfl, Decidable.not_not, eq_self, lg_self]
  exact h5
set_option maxHeartbeats 4000000 in
theorem lc_13 {D L i : Nat} {X : Nat → Int} {w : ai_H} {k : Nat × Nat} {Q : Option Value → ai_H → Prop} (sr : SRc w L X) (hL : LI w) (iL : i + 7 ≤ L) (L0 : L ≤ 3584) (hk : k.1 ≤ 9000 ∧ k.2 ≤ 900000) (lo : ∀ j, -2147483648 ≤ X j) (hi : ∀ j, X j < 2147483648) (nx : ∀ w', SRc w' L X → LI w' → Ex (D + 61) mL_law 18 [some (.ref 1000300), some (.ref 0), some (.ref 47), some (.int (jI ((i + 7 : Nat) : Int)))] [] k w' Q) : Ex (D + 61) mL_law 601 [some (.ref 1000300), some (.ref 0), some (.ref 47), some (.int (jI i))] [] k w Q := by
  have s0 := sr.2.2.2.1
  have s47 := sr.2.2.2.2.1
  have e1 := sr.v (j := (i : Int) + 1) (n := i + 1) (by omega)
  have g1 := sr.g L0 (j := (i : Int) + 1) (by omega) (by omega)
  have e2 := sr.v (j := (i : Int) + 2) (n := i + 2) (by omega)
  have g2 := sr.g L0 (j := (i : Int) + 2) (by omega) (by omega)
  obtain ⟨g, h, im, mv, S, tn, tp, nt, T, hB, hA, hM⟩ := hL
  simp (disch := first | omega | assumption | exact gC_L ⟨by omega, by omega⟩ rfl | exact gC_L ⟨by show k.1 + 3 ≤ 10000; omega, by show k.2 + 165 ≤ 1000000; omega⟩ rfl) only [sL_law_601, sL_law_602, sL_law_603, sL_law_604, sL_law_605, sL_law_606, sL_law_607, sL_law_608, sL_law_609, sL_law_610, sL_law_611, sL_law_612, e1, g1, e2, g2, s0, s47, mI_msI, mI_msP, mI_msA, mP_msI, mP_msP, mP_msA, mS_msI, mS_msP, mS_msA, mN_msI, mN_msP, mN_msA, Option.toList_some, Option.toList_none, List.cons_append, List.nil_append, ai_rf_s, ai_rf_n, ai_kl_i, ai_kl_r, ai_kl_n, b2_0, b2_1, if_true, if_false, and_true, true_and, or_false, false_or, or_true, true_or, and_false, false_and, not_true_eq_false, not_false_eq_true, seval, jN, jI_add, jI_sub, jI_mul, jI_neg, jj_lt, jj_le, jj_eq, jj_div, jj_rem, jl_cl, b2_j0, b2_j1, show (0 : Int32) = jI 0 from rfl, show (1 : Int32) = jI 1 from rfl, show (2 : Int32) = jI 2 from rfl, show (3 : Int32) = jI 3 from rfl, show (4 : Int32) = jI 4 from rfl, show (5 : Int32) = jI 5 from rfl, show (6 : Int32) = jI 6 from rfl, show (7 : Int32) = jI 7 from rfl, show (63 : Int32) = jI 63 from rfl, Decidable.not_not, eq_self, lg_self]
  refine Cl.imp (Cl_sc (p_moved hB hA hM (lo (i + 1)) (hi (i + 1)) (lo (i + 2)) (hi (i + 2)))) (fun r w1 hh => ?_)
  obtain ⟨⟨z, rfl, hM1⟩, sc⟩ := hh
  have sr := sr.sc sc
  have s0 := sr.2.2.2.1
  have s47 := sr.2.2.2.2.1
  have e1 := sr.v (j := (i : Int) + 1) (n := i + 1) (by omega)
  have g1 := sr.g L0 (j := (i : Int) + 1) (by omega) (by omega)
  have e2 := sr.v (j := (i : Int) + 2) (n := i + 2) (by omega)
  have g2 := sr.g L0 (j := (i : Int) + 2) (by omega) (by omega)
  simp (disch := first | omega | assumption | exact gC_L ⟨by omega, by omega⟩ rfl | exact gC_L ⟨by show k.1 + 3 ≤ 10000; omega, by show k.2 + 165 ≤ 1000000; omega⟩ rfl) only [sL_law_615, sL_law_616, sL_law_617, sL_law_618, sL_law_619, sL_law_620, sL_law_621, sL_law_622, sL_law_623, sL_law_624, sL_law_625, sL_law_626, e1, g1, e2, g2, s0, s47, mI_msI, mI_msP, mI_msA, mP_msI, mP_msP, mP_msA, mS_msI, mS_msP, mS_msA, mN_msI, mN_msP, mN_msA, Option.toList_some, Option.toList_none, List.cons_append, List.nil_append, ai_rf_s, ai_rf_n, ai_kl_i, ai_kl_r, ai_kl_n, b2_0, b2_1, if_true, if_false, and_true, true_and, or_false, false_or, or_true, true_or, and_false, false_and, not_true_eq_false, not_false_eq_true, seval, jN, jI_add, jI_sub, jI_mul, jI_neg, jj_lt, jj_le, jj_eq, jj_div, jj_rem, jl_cl, b2_j0, b2_j1, show (0 : Int32) = jI 0 from rfl, show (1 : Int32) = jI 1 from rfl, show (2 : Int32) = jI 2 from rfl, show (3 : Int32) = jI 3 from rfl, show (4 : Int32) = jI 4 from rfl, show (5 : Int32) = jI 5 from rfl, show (6 : Int32) = jI 6 from rfl, show (7 : Int32) = jI 7 from rfl, show (63 : Int32) = jI 63 from rfl, Decidable.not_not, eq_self, lg_self]
  refine Cl.imp (Cl_sc hM1) (fun r2 w2 hh2 => ?_)
  obtain ⟨⟨rfl, L2⟩, sc2⟩ := hh2
  have h5 := nx w2 (sr.sc sc2) L2
  rw [Int.natCast_add] at h5
  simp (disch := first | omega | assumption | exact gC_L ⟨by omega, by omega⟩ rfl | exact gC_L ⟨by show k.1 + 3 ≤ 10000; omega, by show k.2 + 165 ≤ 1000000; omega⟩ rfl) only [sL_law_629, sL_law_632, sL_law_633, sL_law_1488, sL_law_1491, mI_msI, mI_msP, mI_msA, mP_msI, mP_msP, mP_msA, mS_msI, mS_msP, mS_msA, mN_msI, mN_msP, mN_msA, Option.toList_some, Option.toList_none, List.cons_append, List.nil_append, ai_rf_s, ai_rf_n, ai_kl_i, ai_kl_r, ai_kl_n, b2_0, b2_1, if_true, if_false, and_true, true_and, or_false, false_or, or_true, true_or, and_false, false_and, not_true_eq_false, not_false_eq_true, seval, jN, jI_add, jI_sub, jI_mul, jI_neg, jj_lt, jj_le, jj_eq, jj_div, jj_rem, jl_cl, b2_j0, b2_j1, show (0 : Int32) = jI 0 from rfl, show (1 : Int32) = jI 1 from rfl, show (2 : Int32) = jI 2 from rfl, show (3 : Int32) = jI 3 from rfl, show (4 : Int32) = jI 4 from rfl, show (5 : Int32) = jI 5 from rfl, show (6 : Int32) = jI 6 from rfl, show (7 : Int32) = jI 7 from rfl, show (63 : Int32) = jI 63 from rfl, Decidable.not_not, eq_self, lg_self]
  exact h5
set_option maxHeartbeats 4000000 in
theorem lc_14 {D L i : Nat} {X : Nat → Int} {w : ai_H} {k : Nat × Nat} {Q : Option Value → ai_H → Prop} (sr : SRc w L X) (hL : LI w) (iL : i + 7 ≤ L) (L0 : L ≤ 3584) (hk : k.1 ≤ 9000 ∧ k.2 ≤ 900000) (lo : ∀ j, -2147483648 ≤ X j) (hi : ∀ j, X j < 2147483648) (nx : ∀ w', SRc w' L X → LI w' → Ex (D + 61) mL_law 18 [some (.ref 1000300), some (.ref 0), some (.ref 47), some (.int (jI ((i + 7 : Nat) : Int)))] [] k w' Q) : Ex (D + 61) mL_law 634 [some (.ref 1000300), some (.ref 0), some (.ref 47), some (.int (jI i))] [] k w Q := by
  have s0 := sr.2.2.2.1
  have s47 := sr.2.2.2.2.1
  have e1 := sr.v (j := (i : Int) + 1) (n := i + 1) (by omega)
  have g1 := sr.g L0 (j := (i : Int) + 1) (by omega) (by omega)
  have e2 := sr.v (j := (i : Int) + 2) (n := i + 2) (by omega)
  have g2 := sr.g L0 (j := (i : Int) + 2) (by omega) (by omega)
  obtain ⟨g, h, im, mv, S, tn, tp, nt, T, hB, hA, hM⟩ := hL
  simp (disch := first | omega | assumption | exact gC_L ⟨by omega, by omega⟩ rfl | exact gC_L ⟨by show k.1 + 3 ≤ 10000; omega, by show k.2 + 165 ≤ 1000000; omega⟩ rfl) only [sL_law_634, sL_law_635, sL_law_636, sL_law_637, sL_law_638, sL_law_639, sL_law_640, sL_law_641, sL_law_642, sL_law_643, sL_law_644, sL_law_645, e1, g1, e2, g2, s0, s47, mI_msI, mI_msP, mI_msA, mP_msI, mP_msP, mP_msA, mS_msI, mS_msP, mS_msA, mN_msI, mN_msP, mN_msA, Option.toList_some, Option.toList_none, List.cons_append, List.nil_append, ai_rf_s, ai_rf_n, ai_kl_i, ai_kl_r, ai_kl_n, b2_0, b2_1, if_true, if_false, and_true, true_and, or_false, false_or, or_true, true_or, and_false, false_and, not_true_eq_false, not_false_eq_true, seval, jN, jI_add, jI_sub, jI_mul, jI_neg, jj_lt, jj_le, jj_eq, jj_div, jj_rem, jl_cl, b2_j0, b2_j1, show (0 : Int32) = jI 0 from rfl, show (1 : Int32) = jI 1 from rfl, show (2 : Int32) = jI 2 from rfl, show (3 : Int32) = jI 3 from rfl, show (4 : Int32) = jI 4 from rfl, show (5 : Int32) = jI 5 from rfl, show (6 : Int32) = jI 6 from rfl, show (7 : Int32) = jI 7 from rfl, show (63 : Int32) = jI 63 from rfl, Decidable.not_not, eq_self, lg_self]
  refine Cl.imp (Cl_sc (p_broken hB hA hM (lo (i + 1)) (hi (i + 1)) (lo (i + 2)) (hi (i + 2)))) (fun r w1 hh => ?_)
  obtain ⟨⟨z, rfl, hM1⟩, sc⟩ := hh
  have sr := sr.sc sc
  have s0 := sr.2.2.2.1
  have s47 := sr.2.2.2.2.1
  have e1 := sr.v (j := (i : Int) + 1) (n := i + 1) (by omega)
  have g1 := sr.g L0 (j := (i : Int) + 1) (by omega) (by omega)
  have e2 := sr.v (j := (i : Int) + 2) (n := i + 2) (by omega)
  have g2 := sr.g L0 (j := (i : Int) + 2) (by omega) (by omega)
  simp (disch := first | omega | assumption | exact gC_L ⟨by omega, by omega⟩ rfl | exact gC_L ⟨by show k.1 + 3 ≤ 10000; omega, by show k.2 + 165 ≤ 1000000; omega⟩ rfl) only [sL_law_648, sL_law_649, sL_law_650, sL_law_651, sL_law_652, sL_law_653, sL_law_654, sL_law_655, sL_law_656, sL_law_657, sL_law_658, sL_law_659, e1, g1, e2, g2, s0, s47, mI_msI, mI_msP, mI_msA, mP_msI, mP_msP, mP_msA, mS_msI, mS_msP, mS_msA, mN_msI, mN_msP, mN_msA, Option.toList_some, Option.toList_none, List.cons_append, List.nil_append, ai_rf_s, ai_rf_n, ai_kl_i, ai_kl_r, ai_kl_n, b2_0, b2_1, if_true, if_false, and_true, true_and, or_false, false_or, or_true, true_or, and_false, false_and, not_true_eq_false, not_false_eq_true, seval, jN, jI_add, jI_sub, jI_mul, jI_neg, jj_lt, jj_le, jj_eq, jj_div, jj_rem, jl_cl, b2_j0, b2_j1, show (0 : Int32) = jI 0 from rfl, show (1 : Int32) = jI 1 from rfl, show (2 : Int32) = jI 2 from rfl, show (3 : Int32) = jI 3 from rfl, show (4 : Int32) = jI 4 from rfl, show (5 : Int32) = jI 5 from rfl, show (6 : Int32) = jI 6 from rfl, show (7 : Int32) = jI 7 from rfl, show (63 : Int32) = jI 63 from rfl, Decidable.not_not, eq_self, lg_self]
  refine Cl.imp (Cl_sc hM1) (fun r2 w2 hh2 => ?_)
  obtain ⟨⟨rfl, L2⟩, sc2⟩ := hh2
  have h5 := nx w2 (sr.sc sc2) L2
  rw [Int.natCast_add] at h5
  simp (disch := first | omega | assumption | exact gC_L ⟨by omega, by omega⟩ rfl | exact gC_L ⟨by show k.1 + 3 ≤ 10000; omega, by show k.2 + 165 ≤ 1000000; omega⟩ rfl) only [sL_law_662, sL_law_665, sL_law_666, sL_law_1488, sL_law_1491, mI_msI, mI_msP, mI_msA, mP_msI, mP_msP, mP_msA, mS_msI, mS_msP, mS_msA, mN_msI, mN_msP, mN_msA, Option.toList_some, Option.toList_none, List.cons_append, List.nil_append, ai_rf_s, ai_rf_n, ai_kl_i, ai_kl_r, ai_kl_n, b2_0, b2_1, if_true, if_false, and_true, true_and, or_false, false_or, or_true, true_or, and_false, false_and, not_true_eq_false, not_false_eq_true, seval, jN, jI_add, jI_sub, jI_mul, jI_neg, jj_lt, jj_le, jj_eq, jj_div, jj_rem, jl_cl, b2_j0, b2_j1, show (0 : Int32) = jI 0 from rfl, show (1 : Int32) = jI 1 from rfl, show (2 : Int32) = jI 2 from rfl, show (3 : Int32) = jI 3 from rfl, show (4 : Int32) = jI 4 from rfl, show (5 : Int32) = jI 5 from rfl, show (6 : Int32) = jI 6 from rfl, show (7 : Int32) = jI 7 from rfl, show (63 : Int32) = jI 63 from rfl, Decidable.not_not, eq_self, lg_self]
  exact h5
set_option maxHeartbeats 4000000 in
theorem lc_15 {D L i : Nat} {X : Nat → Int} {w : ai_H} {k : Nat × Nat} {Q : Option Value → ai_H → Prop} (sr : SRc w L X) (hL : LI w) (iL : i + 7 ≤ L) (L0 : L ≤ 3584) (hk : k.1 ≤ 9000 ∧ k.2 ≤ 900000) (lo : ∀ j, -2147483648 ≤ X j) (hi : ∀ j, X j < 2147483648) (nx : ∀ w', SRc w' L X → LI w' → Ex (D + 61) mL_law 18 [some (.ref 1000300), some (.ref 0), some (.ref 47), some (.int (jI ((i + 7 : Nat) : Int)))] [] k w' Q) : Ex (D + 61) mL_law 667 [some (.ref 1000300), some (.ref 0), some (.ref 47), some (.int (jI i))] [] k w Q := by
  have s0 := sr.2.2.2.1
  have s47 := sr.2.2.2.2.1
  have e1 := sr.v (j := (i : Int) + 1) (n := i + 1) (by omega)
  have g1 := sr.g L0 (j := (i : Int) + 1) (by omega) (by omega)
  obtain ⟨g, h, im, mv, S, tn, tp, nt, T, hB, hA, hM⟩ := hL
  simp (disch := first | omega | assumption | exact gC_L ⟨by omega, by omega⟩ rfl | exact gC_L ⟨by show k.1 + 3 ≤ 10000; omega, by show k.2 + 165 ≤ 1000000; omega⟩ rfl) only [sL_law_667, sL_law_668, sL_law_669, sL_law_670, sL_law_671, sL_law_672, sL_law_673, e1, g1, s0, s47, mI_msI, mI_msP, mI_msA, mP_msI, mP_msP, mP_msA, mS_msI, mS_msP, mS_msA, mN_msI, mN_msP, mN_msA, Option.toList_some, Option.toList_none, List.cons_append, List.nil_append, ai_rf_s, ai_rf_n, ai_kl_i, ai_kl_r, ai_kl_n, b2_0, b2_1, if_true, if_false, and_true, true_and, or_false, false_or, or_true, true_or, and_false, false_and, not_true_eq_false, not_false_eq_true, seval, jN, jI_add, jI_sub, jI_mul, jI_neg, jj_lt, jj_le, jj_eq, jj_div, jj_rem, jl_cl, b2_j0, b2_j1, show (0 : Int32) = jI 0 from rfl, show (1 : Int32) = jI 1 from rfl, show (2 : Int32) = jI 2 from rfl, show (3 : Int32) = jI 3 from rfl, show (4 : Int32) = jI 4 from rfl, show (5 : Int32) = jI 5 from rfl, show (6 : Int32) = jI 6 from rfl, show (7 : Int32) = jI 7 from rfl, show (63 : Int32) = jI 63 from rfl, Decidable.not_not, eq_self, lg_self]
  refine Cl.imp (Cl_sc (p_may hB hA hM (lo (i + 1)) (hi (i + 1)))) (fun r w1 hh => ?_)
  obtain ⟨⟨z, rfl, hM1⟩, sc⟩ := hh
  have sr := sr.sc sc
  have s0 := sr.2.2.2.1
  have s47 := sr.2.2.2.2.1
  have e1 := sr.v (j := (i : Int) + 1) (n := i + 1) (by omega)
  have g1 := sr.g L0 (j := (i : Int) + 1) (by omega) (by omega)
  simp (disch := first | omega | assumption | exact gC_L ⟨by omega, by omega⟩ rfl | exact gC_L ⟨by show k.1 + 3 ≤ 10000; omega, by show k.2 + 165 ≤ 1000000; omega⟩ rfl) only [sL_law_676, sL_law_677, sL_law_678, sL_law_679, sL_law_680, sL_law_681, sL_law_682, e1, g1, s0, s47, mI_msI, mI_msP, mI_msA, mP_msI, mP_msP, mP_msA, mS_msI, mS_msP, mS_msA, mN_msI, mN_msP, mN_msA, Option.toList_some, Option.toList_none, List.cons_append, List.nil_append, ai_rf_s, ai_rf_n, ai_kl_i, ai_kl_r, ai_kl_n, b2_0, b2_1, if_true, if_false, and_true, true_and, or_false, false_or, or_true, true_or, and_false, false_and, not_true_eq_false, not_false_eq_true, seval, jN, jI_add, jI_sub, jI_mul, jI_neg, jj_lt, jj_le, jj_eq, jj_div, jj_rem, jl_cl, b2_j0, b2_j1, show (0 : Int32) = jI 0 from rfl, show (1 : Int32) = jI 1 from rfl, show (2 : Int32) = jI 2 from rfl, show (3 : Int32) = jI 3 from rfl, show (4 : Int32) = jI 4 from rfl, show (5 : Int32) = jI 5 from rfl, show (6 : Int32) = jI 6 from rfl, show (7 : Int32) = jI 7 from rfl, show (63 : Int32) = jI 63 from rfl, Decidable.not_not, eq_self, lg_self]
  refine Cl.imp (Cl_sc hM1) (fun r2 w2 hh2 => ?_)
  obtain ⟨⟨rfl, L2⟩, sc2⟩ := hh2
  have h5 := nx w2 (sr.sc sc2) L2
  rw [Int.natCast_add] at h5
  simp (disch := first | omega | assumption | exact gC_L ⟨by omega, by omega⟩ rfl | exact gC_L ⟨by show k.1 + 3 ≤ 10000; omega, by show k.2 + 165 ≤ 1000000; omega⟩ rfl) only [sL_law_685, sL_law_688, sL_law_689, sL_law_1488, sL_law_1491, mI_msI, mI_msP, mI_msA, mP_msI, mP_msP, mP_msA, mS_msI, mS_msP, mS_msA, mN_msI, mN_msP, mN_msA, Option.toList_some, Option.toList_none, List.cons_append, List.nil_append, ai_rf_s, ai_rf_n, ai_kl_i, ai_kl_r, ai_kl_n, b2_0, b2_1, if_true, if_false, and_true, true_and, or_false, false_or, or_true, true_or, and_false, false_and, not_true_eq_false, not_false_eq_true, seval, jN, jI_add, jI_sub, jI_mul, jI_neg, jj_lt, jj_le, jj_eq, jj_div, jj_rem, jl_cl, b2_j0, b2_j1, show (0 : Int32) = jI 0 from rfl, show (1 : Int32) = jI 1 from rfl, show (2 : Int32) = jI 2 from rfl, show (3 : Int32) = jI 3 from rfl, show (4 : Int32) = jI 4 from rfl, show (5 : Int32) = jI 5 from rfl, show (6 : Int32) = jI 6 from rfl, show (7 : Int32) = jI 7 from rfl, show (63 : Int32) = jI 63 from rfl, Decidable.not_not, eq_self, lg_self]
  exact h5
set_option maxHeartbeats 4000000 in
theorem lc_16 {D L i : Nat} {X : Nat → Int} {w : ai_H} {k : Nat × Nat} {Q : Option Value → ai_H → Prop} (sr : SRc w L X) (hL : LI w) (iL : i + 7 ≤ L) (L0 : L ≤ 3584) (hk : k.1 ≤ 9000 ∧ k.2 ≤ 900000) (lo : ∀ j, -2147483648 ≤ X j) (hi : ∀ j, X j < 2147483648) (nx : ∀ w', SRc w' L X → LI w' → Ex (D + 61) mL_law 18 [some (.ref 1000300), some (.ref 0), some (.ref 47), some (.int (jI ((i + 7 : Nat) : Int)))] [] k w' Q) : Ex (D + 61) mL_law 690 [some (.ref 1000300), some (.ref 0), some (.ref 47), some (.int (jI i))] [] k w Q := by
  have s0 := sr.2.2.2.1
  have s47 := sr.2.2.2.2.1
  have e1 := sr.v (j := (i : Int) + 1) (n := i + 1) (by omega)
  have g1 := sr.g L0 (j := (i : Int) + 1) (by omega) (by omega)
  have e2 := sr.v (j := (i : Int) + 2) (n := i + 2) (by omega)
  have g2 := sr.g L0 (j := (i : Int) + 2) (by omega) (by omega)
  obtain ⟨g, h, im, mv, S, tn, tp, nt, T, hB, hA, hM⟩ := hL
  simp (disch := first | omega | assumption | exact gC_L ⟨by omega, by omega⟩ rfl | exact gC_L ⟨by show k.1 + 3 ≤ 10000; omega, by show k.2 + 165 ≤ 1000000; omega⟩ rfl) only [sL_law_690, sL_law_691, sL_law_692, sL_law_693, sL_law_694, sL_law_695, sL_law_696, sL_law_697, sL_law_698, sL_law_699, sL_law_700, sL_law_701, e1, g1, e2, g2, s0, s47, mI_msI, mI_msP, mI_msA, mP_msI, mP_msP, mP_msA, mS_msI, mS_msP, mS_msA, mN_msI, mN_msP, mN_msA, Option.toList_some, Option.toList_none, List.cons_append, List.nil_append, ai_rf_s, ai_rf_n, ai_kl_i, ai_kl_r, ai_kl_n, b2_0, b2_1, if_true, if_false, and_true, true_and, or_false, false_or, or_true, true_or, and_false, false_and, not_true_eq_false, not_false_eq_true, seval, jN, jI_add, jI_sub, jI_mul, jI_neg, jj_lt, jj_le, jj_eq, jj_div, jj_rem, jl_cl, b2_j0, b2_j1, show (0 : Int32) = jI 0 from rfl, show (1 : Int32) = jI 1 from rfl, show (2 : Int32) = jI 2 from rfl, show (3 : Int32) = jI 3 from rfl, show (4 : Int32) = jI 4 from rfl, show (5 : Int32) = jI 5 from rfl, show (6 : Int32) = jI 6 from rfl, show (7 : Int32) = jI 7 from rfl, show (63 : Int32) = jI 63 from rfl, Decidable.not_not, eq_self, lg_self]
  refine Cl.imp (Cl_sc (p_call hB hA hM (lo (i + 1)) (hi (i + 1)) (lo (i + 2)) (hi (i + 2)))) (fun r w1 hh => ?_)
  obtain ⟨⟨z, rfl, hM1⟩, sc⟩ := hh
  have sr := sr.sc sc
  have s0 := sr.2.2.2.1
  have s47 := sr.2.2.2.2.1
  have e1 := sr.v (j := (i : Int) + 1) (n := i + 1) (by omega)
  have g1 := sr.g L0 (j := (i : Int) + 1) (by omega) (by omega)
  have e2 := sr.v (j := (i : Int) + 2) (n := i + 2) (by omega)
  have g2 := sr.g L0 (j := (i : Int) + 2) (by omega) (by omega)
  simp (disch := first | omega | assumption | exact gC_L ⟨by omega, by omega⟩ rfl | exact gC_L ⟨by show k.1 + 3 ≤ 10000; omega, by show k.2 + 165 ≤ 1000000; omega⟩ rfl) only [sL_law_704, sL_law_705, sL_law_706, sL_law_707, sL_law_708, sL_law_709, sL_law_710, sL_law_711, sL_law_712, sL_law_713, sL_law_714, sL_law_715, e1, g1, e2, g2, s0, s47, mI_msI, mI_msP, mI_msA, mP_msI, mP_msP, mP_msA, mS_msI, mS_msP, mS_msA, mN_msI, mN_msP, mN_msA, Option.toList_some, Option.toList_none, List.cons_append, List.nil_append, ai_rf_s, ai_rf_n, ai_kl_i, ai_kl_r, ai_kl_n, b2_0, b2_1, if_true, if_false, and_true, true_and, or_false, false_or, or_true, true_or, and_false, false_and, not_true_eq_false, not_false_eq_true, seval, jN, jI_add, jI_sub, jI_mul, jI_neg, jj_lt, jj_le, jj_eq, jj_div, jj_rem, jl_cl, b2_j0, b2_j1, show (0 : Int32) = jI 0 from rfl, show (1 : Int32) = jI 1 from rfl, show (2 : Int32) = jI 2 from rfl, show (3 : Int32) = jI 3 from rfl, show (4 : Int32) = jI 4 from rfl, show (5 : Int32) = jI 5 from rfl, show (6 : Int32) = jI 6 from rfl, show (7 : Int32) = jI 7 from rfl, show (63 : Int32) = jI 63 from rfl, Decidable.not_not, eq_self, lg_self]
  refine Cl.imp (Cl_sc hM1) (fun r2 w2 hh2 => ?_)
  obtain ⟨⟨rfl, L2⟩, sc2⟩ := hh2
  have h5 := nx w2 (sr.sc sc2) L2
  rw [Int.natCast_add] at h5
  simp (disch := first | omega | assumption | exact gC_L ⟨by omega, by omega⟩ rfl | exact gC_L ⟨by show k.1 + 3 ≤ 10000; omega, by show k.2 + 165 ≤ 1000000; omega⟩ rfl) only [sL_law_718, sL_law_721, sL_law_722, sL_law_1488, sL_law_1491, mI_msI, mI_msP, mI_msA, mP_msI, mP_msP, mP_msA, mS_msI, mS_msP, mS_msA, mN_msI, mN_msP, mN_msA, Option.toList_some, Option.toList_none, List.cons_append, List.nil_append, ai_rf_s, ai_rf_n, ai_kl_i, ai_kl_r, ai_kl_n, b2_0, b2_1, if_true, if_false, and_true, true_and, or_false, false_or, or_true, true_or, and_false, false_and, not_true_eq_false, not_false_eq_true, seval, jN, jI_add, jI_sub, jI_mul, jI_neg, jj_lt, jj_le, jj_eq, jj_div, jj_rem, jl_cl, b2_j0, b2_j1, show (0 : Int32) = jI 0 from rfl, show (1 : Int32) = jI 1 from rfl, show (2 : Int32) = jI 2 from rfl, show (3 : Int32) = jI 3 from rfl, show (4 : Int32) = jI 4 from rfl, show (5 : Int32) = jI 5 from rfl, show (6 : Int32) = jI 6 from rfl, show (7 : Int32) = jI 7 from rfl, show (63 : Int32) = jI 63 from rfl, Decidable.not_not, eq_self, lg_self]
  exact h5
set_option maxHeartbeats 4000000 in
theorem lc_17 {D L i : Nat} {X : Nat → Int} {w : ai_H} {k : Nat × Nat} {Q : Option Value → ai_H → Prop} (sr : SRc w L X) (hL : LI w) (iL : i + 7 ≤ L) (L0 : L ≤ 3584) (hk : k.1 ≤ 9000 ∧ k.2 ≤ 900000) (lo : ∀ j, -2147483648 ≤ X j) (hi : ∀ j, X j < 2147483648) (nx : ∀ w', SRc w' L X → LI w' → Ex (D + 61) mL_law 18 [some (.ref 1000300), some (.ref 0), some (.ref 47), some (.int (jI ((i + 7 : Nat) : Int)))] [] k w' Q) : Ex (D + 61) mL_law 723 [some (.ref 1000300), some (.ref 0), some (.ref 47), some (.int (jI i))] [] k w Q := by
  have s0 := sr.2.2.2.1
  have s47 := sr.2.2.2.2.1
  have e1 := sr.v (j := (i : Int) + 1) (n := i + 1) (by omega)
  have g1 := sr.g L0 (j := (i : Int) + 1) (by omega) (by omega)
  have e2 := sr.v (j := (i : Int) + 2) (n := i + 2) (by omega)
  have g2 := sr.g L0 (j := (i : Int) + 2) (by omega) (by omega)
  have e3 := sr.v (j := (i : Int) + 3) (n := i + 3) (by omega)
  have g3 := sr.g L0 (j := (i : Int) + 3) (by omega) (by omega)
  obtain ⟨g, h, im, mv, S, tn, tp, nt, T, hB, hA, hM⟩ := hL
  simp (disch := first | omega | assumption | exact gC_L ⟨by omega, by omega⟩ rfl | exact gC_L ⟨by show k.1 + 3 ≤ 10000; omega, by show k.2 + 165 ≤ 1000000; omega⟩ rfl) only [sL_law_723, sL_law_724, sL_law_725, sL_law_726, sL_law_727, sL_law_728, sL_law_729, sL_law_730, sL_law_731, sL_law_732, sL_law_733, sL_law_734, sL_law_735, sL_law_736, sL_law_737, sL_law_738, sL_law_739, e1, g1, e2, g2, e3, g3, s0, s47, mI_msI, mI_msP, mI_msA, mP_msI, mP_msP, mP_msA, mS_msI, mS_msP, mS_msA, mN_msI, mN_msP, mN_msA, Option.toList_some, Option.toList_none, List.cons_append, List.nil_append, ai_rf_s, ai_rf_n, ai_kl_i, ai_kl_r, ai_kl_n, b2_0, b2_1, if_true, if_false, and_true, true_and, or_false, false_or, or_true, true_or, and_false, false_and, not_true_eq_false, not_false_eq_true, seval, jN, jI_add, jI_sub, jI_mul, jI_neg, jj_lt, jj_le, jj_eq, jj_div, jj_rem, jl_cl, b2_j0, b2_j1, show (0 : Int32) = jI 0 from rfl, show (1 : Int32) = jI 1 from rfl, show (2 : Int32) = jI 2 from rfl, show (3 : Int32) = jI 3 from rfl, show (4 : Int32) = jI 4 from rfl, show (5 : Int32) = jI 5 from rfl, show (6 : Int32) = jI 6 from rfl, show (7 : Int32) = jI 7 from rfl, show (63 : Int32) = jI 63 from rfl, Decidable.not_not, eq_self, lg_self]
  refine Cl.imp (Cl_sc (p_worth hB hA hM (lo (i + 1)) (hi (i + 1)) (lo (i + 2)) (hi (i + 2)) (lo (i + 3)) (hi (i + 3)))) (fun r w1 hh => ?_)
  obtain ⟨⟨z, rfl, hM1⟩, sc⟩ := hh
  have sr := sr.sc sc
  have s0 := sr.2.2.2.1
  have s47 := sr.2.2.2.2.1
  have e1 := sr.v (j := (i : Int) + 1) (n := i + 1) (by omega)
  have g1 := sr.g L0 (j := (i : Int) + 1) (by omega) (by omega)
  have e2 := sr.v (j := (i : Int) + 2) (n := i + 2) (by omega)
  have g2 := sr.g L0 (j := (i : Int) + 2) (by omega) (by omega)
  have e3 := sr.v (j := (i : Int) + 3) (n := i + 3) (by omega)
  have g3 := sr.g L0 (j := (i : Int) + 3) (by omega) (by omega)
  simp (disch := first | omega | assumption | exact gC_L ⟨by omega, by omega⟩ rfl | exact gC_L ⟨by show k.1 + 3 ≤ 10000; omega, by show k.2 + 165 ≤ 1000000; omega⟩ rfl) only [sL_law_742, sL_law_743, sL_law_744, sL_law_745, sL_law_746, sL_law_747, sL_law_748, sL_law_749, sL_law_750, sL_law_751, sL_law_752, sL_law_753, sL_law_754, sL_law_755, sL_law_756, sL_law_757, sL_law_758, e1, g1, e2, g2, e3, g3, s0, s47, mI_msI, mI_msP, mI_msA, mP_msI, mP_msP, mP_msA, mS_msI, mS_msP, mS_msA, mN_msI, mN_msP, mN_msA, Option.toList_some, Option.toList_none, List.cons_append, List.nil_append, ai_rf_s, ai_rf_n, ai_kl_i, ai_kl_r, ai_kl_n, b2_0, b2_1, if_true, if_false, and_true, true_and, or_false, false_or, or_true, true_or, and_false, false_and, not_true_eq_false, not_false_eq_true, seval, jN, jI_add, jI_sub, jI_mul, jI_neg, jj_lt, jj_le, jj_eq, jj_div, jj_rem, jl_cl, b2_j0, b2_j1, show (0 : Int32) = jI 0 from rfl, show (1 : Int32) = jI 1 from rfl, show (2 : Int32) = jI 2 from rfl, show (3 : Int32) = jI 3 from rfl, show (4 : Int32) = jI 4 from rfl, show (5 : Int32) = jI 5 from rfl, show (6 : Int32) = jI 6 from rfl, show (7 : Int32) = jI 7 from rfl, show (63 : Int32) = jI 63 from rfl, Decidable.not_not, eq_self, lg_self]
  refine Cl.imp (Cl_sc hM1) (fun r2 w2 hh2 => ?_)
  obtain ⟨⟨rfl, L2⟩, sc2⟩ := hh2
  have h5 := nx w2 (sr.sc sc2) L2
  rw [Int.natCast_add] at h5
  simp (disch := first | omega | assumption | exact gC_L ⟨by omega, by omega⟩ rfl | exact gC_L ⟨by show k.1 + 3 ≤ 10000; omega, by show k.2 + 165 ≤ 1000000; omega⟩ rfl) only [sL_law_761, sL_law_762, sL_law_765, sL_law_766, sL_law_1488, sL_law_1491, mI_msI, mI_msP, mI_msA, mP_msI, mP_msP, mP_msA, mS_msI, mS_msP, mS_msA, mN_msI, mN_msP, mN_msA, Option.toList_some, Option.toList_none, List.cons_append, List.nil_append, ai_rf_s, ai_rf_n, ai_kl_i, ai_kl_r, ai_kl_n, b2_0, b2_1, if_true, if_false, and_true, true_and, or_false, false_or, or_true, true_or, and_false, false_and, not_true_eq_false, not_false_eq_true, seval, jN, jI_add, jI_sub, jI_mul, jI_neg, jj_lt, jj_le, jj_eq, jj_div, jj_rem, jl_cl, b2_j0, b2_j1, show (0 : Int32) = jI 0 from rfl, show (1 : Int32) = jI 1 from rfl, show (2 : Int32) = jI 2 from rfl, show (3 : Int32) = jI 3 from rfl, show (4 : Int32) = jI 4 from rfl, show (5 : Int32) = jI 5 from rfl, show (6 : Int32) = jI 6 from rfl, show (7 : Int32) = jI 7 from rfl, show (63 : Int32) = jI 63 from rfl, Decidable.not_not, eq_self, lg_self]
  exact h5
set_option maxHeartbeats 4000000 in
theorem lc_18 {D L i : Nat} {X : Nat → Int} {w : ai_H} {k : Nat × Nat} {Q : Option Value → ai_H → Prop} (sr : SRc w L X) (hL : LI w) (iL : i + 7 ≤ L) (L0 : L ≤ 3584) (hk : k.1 ≤ 9000 ∧ k.2 ≤ 900000) (lo : ∀ j, -2147483648 ≤ X j) (hi : ∀ j, X j < 2147483648) (nx : ∀ w', SRc w' L X → LI w' → Ex (D + 61) mL_law 18 [some (.ref 1000300), some (.ref 0), some (.ref 47), some (.int (jI ((i + 7 : Nat) : Int)))] [] k w' Q) : Ex (D + 61) mL_law 767 [some (.ref 1000300), some (.ref 0), some (.ref 47), some (.int (jI i))] [] k w Q := by
  have s0 := sr.2.2.2.1
  have s47 := sr.2.2.2.2.1
  have e1 := sr.v (j := (i : Int) + 1) (n := i + 1) (by omega)
  have g1 := sr.g L0 (j := (i : Int) + 1) (by omega) (by omega)
  have e2 := sr.v (j := (i : Int) + 2) (n := i + 2) (by omega)
  have g2 := sr.g L0 (j := (i : Int) + 2) (by omega) (by omega)
  obtain ⟨g, h, im, mv, S, tn, tp, nt, T, hB, hA, hM⟩ := hL
  simp (disch := first | omega | assumption | exact gC_L ⟨by omega, by omega⟩ rfl | exact gC_L ⟨by show k.1 + 3 ≤ 10000; omega, by show k.2 + 165 ≤ 1000000; omega⟩ rfl) only [sL_law_767, sL_law_768, sL_law_769, sL_law_770, sL_law_771, sL_law_772, sL_law_773, sL_law_774, sL_law_775, sL_law_776, sL_law_777, sL_law_778, e1, g1, e2, g2, s0, s47, mI_msI, mI_msP, mI_msA, mP_msI, mP_msP, mP_msA, mS_msI, mS_msP, mS_msA, mN_msI, mN_msP, mN_msA, Option.toList_some, Option.toList_none, List.cons_append, List.nil_append, ai_rf_s, ai_rf_n, ai_kl_i, ai_kl_r, ai_kl_n, b2_0, b2_1, if_true, if_false, and_true, true_and, or_false, false_or, or_true, true_or, and_false, false_and, not_true_eq_false, not_false_eq_true, seval, jN, jI_add, jI_sub, jI_mul, jI_neg, jj_lt, jj_le, jj_eq, jj_div, jj_rem, jl_cl, b2_j0, b2_j1, show (0 : Int32) = jI 0 from rfl, show (1 : Int32) = jI 1 from rfl, show (2 : Int32) = jI 2 from rfl, show (3 : Int32) = jI 3 from rfl, show (4 : Int32) = jI 4 from rfl, show (5 : Int32) = jI 5 from rfl, show (6 : Int32) = jI 6 from rfl, show (7 : Int32) = jI 7 from rfl, show (63 : Int32) = jI 63 from rfl, Decidable.not_not, eq_self, lg_self]
  refine Cl.imp (Cl_sc (p_best hB hA hM (lo (i + 1)) (hi (i + 1)) (lo (i + 2)) (hi (i + 2)))) (fun r w1 hh => ?_)
  obtain ⟨⟨z, rfl, hM1⟩, sc⟩ := hh
  have sr := sr.sc sc
  have s0 := sr.2.2.2.1
  have s47 := sr.2.2.2.2.1
  have e1 := sr.v (j := (i : Int) + 1) (n := i + 1) (by omega)
  have g1 := sr.g L0 (j := (i : Int) + 1) (by omega) (by omega)
  have e2 := sr.v (j := (i : Int) + 2) (n := i + 2) (by omega)
  have g2 := sr.g L0 (j := (i : Int) + 2) (by omega) (by omega)
  simp (disch := first | omega | assumption | exact gC_L ⟨by omega, by omega⟩ rfl | exact gC_L ⟨by show k.1 + 3 ≤ 10000; omega, by show k.2 + 165 ≤ 1000000; omega⟩ rfl) only [sL_law_781, sL_law_782, sL_law_783, sL_law_784, sL_law_785, sL_law_786, sL_law_787, sL_law_788, sL_law_789, sL_law_790, sL_law_791, sL_law_792, e1, g1, e2, g2, s0, s47, mI_msI, mI_msP, mI_msA, mP_msI, mP_msP, mP_msA, mS_msI, mS_msP, mS_msA, mN_msI, mN_msP, mN_msA, Option.toList_some, Option.toList_none, List.cons_append, List.nil_append, ai_rf_s, ai_rf_n, ai_kl_i, ai_kl_r, ai_kl_n, b2_0, b2_1, if_true, if_false, and_true, true_and, or_false, false_or, or_true, true_or, and_false, false_and, not_true_eq_false, not_false_eq_true, seval, jN, jI_add, jI_sub, jI_mul, jI_neg, jj_lt, jj_le, jj_eq, jj_div, jj_rem, jl_cl, b2_j0, b2_j1, show (0 : Int32) = jI 0 from rfl, show (1 : Int32) = jI 1 from rfl, show (2 : Int32) = jI 2 from rfl, show (3 : Int32) = jI 3 from rfl, show (4 : Int32) = jI 4 from rfl, show (5 : Int32) = jI 5 from rfl, show (6 : Int32) = jI 6 from rfl, show (7 : Int32) = jI 7 from rfl, show (63 : Int32) = jI 63 from rfl, Decidable.not_not, eq_self, lg_self]
  refine Cl.imp (Cl_sc hM1) (fun r2 w2 hh2 => ?_)
  obtain ⟨⟨rfl, L2⟩, sc2⟩ := hh2
  have h5 := nx w2 (sr.sc sc2) L2
  rw [Int.natCast_add] at h5
  simp (disch := first | omega | assumption | exact gC_L ⟨by omega, by omega⟩ rfl | exact gC_L ⟨by show k.1 + 3 ≤ 10000; omega, by show k.2 + 165 ≤ 1000000; omega⟩ rfl) only [sL_law_795, sL_law_798, sL_law_799, sL_law_1488, sL_law_1491, mI_msI, mI_msP, mI_msA, mP_msI, mP_msP, mP_msA, mS_msI, mS_msP, mS_msA, mN_msI, mN_msP, mN_msA, Option.toList_some, Option.toList_none, List.cons_append, List.nil_append, ai_rf_s, ai_rf_n, ai_kl_i, ai_kl_r, ai_kl_n, b2_0, b2_1, if_true, if_false, and_true, true_and, or_false, false_or, or_true, true_or, and_false, false_and, not_true_eq_false, not_false_eq_true, seval, jN, jI_add, jI_sub, jI_mul, jI_neg, jj_lt, jj_le, jj_eq, jj_div, jj_rem, jl_cl, b2_j0, b2_j1, show (0 : Int32) = jI 0 from rfl, show (1 : Int32) = jI 1 from rfl, show (2 : Int32) = jI 2 from rfl, show (3 : Int32) = jI 3 from rfl, show (4 : Int32) = jI 4 from rfl, show (5 : Int32) = jI 5 from rfl, show (6 : Int32) = jI 6 from rfl, show (7 : Int32) = jI 7 from rfl, show (63 : Int32) = jI 63 from rfl, Decidable.not_not, eq_self, lg_self]
  exact h5
set_option maxHeartbeats 4000000 in
theorem lc_19 {D L i : Nat} {X : Nat → Int} {w : ai_H} {k : Nat × Nat} {Q : Option Value → ai_H → Prop} (sr : SRc w L X) (hL : LI w) (iL : i + 7 ≤ L) (L0 : L ≤ 3584) (hk : k.1 ≤ 9000 ∧ k.2 ≤ 900000) (lo : ∀ j, -2147483648 ≤ X j) (hi : ∀ j, X j < 2147483648) (nx : ∀ w', SRc w' L X → LI w' → Ex (D + 61) mL_law 18 [some (.ref 1000300), some (.ref 0), some (.ref 47), some (.int (jI ((i + 7 : Nat) : Int)))] [] k w' Q) : Ex (D + 61) mL_law 800 [some (.ref 1000300), some (.ref 0), some (.ref 47), some (.int (jI i))] [] k w Q := by
  have s0 := sr.2.2.2.1
  have s47 := sr.2.2.2.2.1
  have e1 := sr.v (j := (i : Int) + 1) (n := i + 1) (by omega)
  have g1 := sr.g L0 (j := (i : Int) + 1) (by omega) (by omega)
  have e2 := sr.v (j := (i : Int) + 2) (n := i + 2) (by omega)
  have g2 := sr.g L0 (j := (i : Int) + 2) (by omega) (by omega)
  have e3 := sr.v (j := (i : Int) + 3) (n := i + 3) (by omega)
  have g3 := sr.g L0 (j := (i : Int) + 3) (by omega) (by omega)
  obtain ⟨g, h, im, mv, S, tn, tp, nt, T, hB, hA, hM⟩ := hL
  simp (disch := first | omega | assumption | exact gC_L ⟨by omega, by omega⟩ rfl | exact gC_L ⟨by show k.1 + 3 ≤ 10000; omega, by show k.2 + 165 ≤ 1000000; omega⟩ rfl) only [sL_law_800, sL_law_801, sL_law_802, sL_law_803, sL_law_804, sL_law_805, sL_law_806, sL_law_807, sL_law_808, sL_law_809, sL_law_810, sL_law_811, sL_law_812, sL_law_813, sL_law_814, sL_law_815, sL_law_816, e1, g1, e2, g2, e3, g3, s0, s47, mI_msI, mI_msP, mI_msA, mP_msI, mP_msP, mP_msA, mS_msI, mS_msP, mS_msA, mN_msI, mN_msP, mN_msA, Option.toList_some, Option.toList_none, List.cons_append, List.nil_append, ai_rf_s, ai_rf_n, ai_kl_i, ai_kl_r, ai_kl_n, b2_0, b2_1, if_true, if_false, and_true, true_and, or_false, false_or, or_true, true_or, and_false, false_and, not_true_eq_false, not_false_eq_true, seval, jN, jI_add, jI_sub, jI_mul, jI_neg, jj_lt, jj_le, jj_eq, jj_div, jj_rem, jl_cl, b2_j0, b2_j1, show (0 : Int32) = jI 0 from rfl, show (1 : Int32) = jI 1 from rfl, show (2 : Int32) = jI 2 from rfl, show (3 : Int32) = jI 3 from rfl, show (4 : Int32) = jI 4 from rfl, show (5 : Int32) = jI 5 from rfl, show (6 : Int32) = jI 6 from rfl, show (7 : Int32) = jI 7 from rfl, show (63 : Int32) = jI 63 from rfl, Decidable.not_not, eq_self, lg_self]
  refine Cl.imp (Cl_sc (p_canForce hB hA hM (lo (i + 1)) (hi (i + 1)) (lo (i + 2)) (hi (i + 2)) (lo (i + 3)) (hi (i + 3)))) (fun r w1 hh => ?_)
  obtain ⟨⟨z, rfl, hM1⟩, sc⟩ := hh
  have sr := sr.sc sc
  have s0 := sr.2.2.2.1
  have s47 := sr.2.2.2.2.1
  have e1 := sr.v (j := (i : Int) + 1) (n := i + 1) (by omega)
  have g1 := sr.g L0 (j := (i : Int) + 1) (by omega) (by omega)
  have e2 := sr.v (j := (i : Int) + 2) (n := i + 2) (by omega)
  have g2 := sr.g L0 (j := (i : Int) + 2) (by omega) (by omega)
  have e3 := sr.v (j := (i : Int) + 3) (n := i + 3) (by omega)
  have g3 := sr.g L0 (j := (i : Int) + 3) (by omega) (by omega)
  simp (disch := first | omega | assumption | exact gC_L ⟨by omega, by omega⟩ rfl | exact gC_L ⟨by show k.1 + 3 ≤ 10000; omega, by show k.2 + 165 ≤ 1000000; omega⟩ rfl) only [sL_law_819, sL_law_820, sL_law_821, sL_law_822, sL_law_823, sL_law_824, sL_law_825, sL_law_826, sL_law_827, sL_law_828, sL_law_829, sL_law_830, sL_law_831, sL_law_832, sL_law_833, sL_law_834, sL_law_835, e1, g1, e2, g2, e3, g3, s0, s47, mI_msI, mI_msP, mI_msA, mP_msI, mP_msP, mP_msA, mS_msI, mS_msP, mS_msA, mN_msI, mN_msP, mN_msA, Option.toList_some, Option.toList_none, List.cons_append, List.nil_append, ai_rf_s, ai_rf_n, ai_kl_i, ai_kl_r, ai_kl_n, b2_0, b2_1, if_true, if_false, and_true, true_and, or_false, false_or, or_true, true_or, and_false, false_and, not_true_eq_false, not_false_eq_true, seval, jN, jI_add, jI_sub, jI_mul, jI_neg, jj_lt, jj_le, jj_eq, jj_div, jj_rem, jl_cl, b2_j0, b2_j1, show (0 : Int32) = jI 0 from rfl, show (1 : Int32) = jI 1 from rfl, show (2 : Int32) = jI 2 from rfl, show (3 : Int32) = jI 3 from rfl, show (4 : Int32) = jI 4 from rfl, show (5 : Int32) = jI 5 from rfl, show (6 : Int32) = jI 6 from rfl, show (7 : Int32) = jI 7 from rfl, show (63 : Int32) = jI 63 from rfl, Decidable.not_not, eq_self, lg_self]
  refine Cl.imp (Cl_sc hM1) (fun r2 w2 hh2 => ?_)
  obtain ⟨⟨rfl, L2⟩, sc2⟩ := hh2
  have h5 := nx w2 (sr.sc sc2) L2
  rw [Int.natCast_add] at h5
  simp (disch := first | omega | assumption | exact gC_L ⟨by omega, by omega⟩ rfl | exact gC_L ⟨by show k.1 + 3 ≤ 10000; omega, by show k.2 + 165 ≤ 1000000; omega⟩ rfl) only [sL_law_838, sL_law_841, sL_law_842, sL_law_1488, sL_law_1491, mI_msI, mI_msP, mI_msA, mP_msI, mP_msP, mP_msA, mS_msI, mS_msP, mS_msA, mN_msI, mN_msP, mN_msA, Option.toList_some, Option.toList_none, List.cons_append, List.nil_append, ai_rf_s, ai_rf_n, ai_kl_i, ai_kl_r, ai_kl_n, b2_0, b2_1, if_true, if_false, and_true, true_and, or_false, false_or, or_true, true_or, and_false, false_and, not_true_eq_false, not_false_eq_true, seval, jN, jI_add, jI_sub, jI_mul, jI_neg, jj_lt, jj_le, jj_eq, jj_div, jj_rem, jl_cl, b2_j0, b2_j1, show (0 : Int32) = jI 0 from rfl, show (1 : Int32) = jI 1 from rfl, show (2 : Int32) = jI 2 from rfl, show (3 : Int32) = jI 3 from rfl, show (4 : Int32) = jI 4 from rfl, show (5 : Int32) = jI 5 from rfl, show (6 : Int32) = jI 6 from rfl, show (7 : Int32) = jI 7 from rfl, show (63 : Int32) = jI 63 from rfl, Decidable.not_not, eq_self, lg_self]
  exact h5
set_option maxHeartbeats 4000000 in
theorem lc_20 {D L i : Nat} {X : Nat → Int} {w : ai_H} {k : Nat × Nat} {Q : Option Value → ai_H → Prop} (sr : SRc w L X) (hL : LI w) (iL : i + 7 ≤ L) (L0 : L ≤ 3584) (hk : k.1 ≤ 9000 ∧ k.2 ≤ 900000) (lo : ∀ j, -2147483648 ≤ X j) (hi : ∀ j, X j < 2147483648) (nx : ∀ w', SRc w' L X → LI w' → Ex (D + 61) mL_law 18 [some (.ref 1000300), some (.ref 0), some (.ref 47), some (.int (jI ((i + 7 : Nat) : Int)))] [] k w' Q) : Ex (D + 61) mL_law 843 [some (.ref 1000300), some (.ref 0), some (.ref 47), some (.int (jI i))] [] k w Q := by
  have s0 := sr.2.2.2.1
  have s47 := sr.2.2.2.2.1
  have e1 := sr.v (j := (i : Int) + 1) (n := i + 1) (by omega)
  have g1 := sr.g L0 (j := (i : Int) + 1) (by omega) (by omega)
  have e2 := sr.v (j := (i : Int) + 2) (n := i + 2) (by omega)
  have g2 := sr.g L0 (j := (i : Int) + 2) (by omega) (by omega)
  obtain ⟨g, h, im, mv, S, tn, tp, nt, T, hB, hA, hM⟩ := hL
  simp (disch := first | omega | assumption | exact gC_L ⟨by omega, by omega⟩ rfl | exact gC_L ⟨by show k.1 + 3 ≤ 10000; omega, by show k.2 + 165 ≤ 1000000; omega⟩ rfl) only [sL_law_843, sL_law_844, sL_law_845, sL_law_846, sL_law_847, sL_law_848, sL_law_849, sL_law_850, sL_law_851, sL_law_852, sL_law_853, sL_law_854, e1, g1, e2, g2, s0, s47, mI_msI, mI_msP, mI_msA, mP_msI, mP_msP, mP_msA, mS_msI, mS_msP, mS_msA, mN_msI, mN_msP, mN_msA, Option.toList_some, Option.toList_none, List.cons_append, List.nil_append, ai_rf_s, ai_rf_n, ai_kl_i, ai_kl_r, ai_kl_n, b2_0, b2_1, if_true, if_false, and_true, true_and, or_false, false_or, or_true, true_or, and_false, false_and, not_true_eq_false, not_false_eq_true, seval, jN, jI_add, jI_sub, jI_mul, jI_neg, jj_lt, jj_le, jj_eq, jj_div, jj_rem, jl_cl, b2_j0, b2_j1, show (0 : Int32) = jI 0 from rfl, show (1 : Int32) = jI 1 from rfl, show (2 : Int32) = jI 2 from rfl, show (3 : Int32) = jI 3 from rfl, show (4 : Int32) = jI 4 from rfl, show (5 : Int32) = jI 5 from rfl, show (6 : Int32) = jI 6 from rfl, show (7 : Int32) = jI 7 from rfl, show (63 : Int32) = jI 63 from rfl, Decidable.not_not, eq_self, lg_self]
  refine Cl.imp (Cl_sc (p_reach hB hA hM (lo (i + 1)) (hi (i + 1)) (lo (i + 2)) (hi (i + 2)))) (fun r w1 hh => ?_)
  obtain ⟨⟨z, rfl, hM1⟩, sc⟩ := hh
  have sr := sr.sc sc
  have s0 := sr.2.2.2.1
  have s47 := sr.2.2.2.2.1
  have e1 := sr.v (j := (i : Int) + 1) (n := i + 1) (by omega)
  have g1 := sr.g L0 (j := (i : Int) + 1) (by omega) (by omega)
  have e2 := sr.v (j := (i : Int) + 2) (n := i + 2) (by omega)
  have g2 := sr.g L0 (j := (i : Int) + 2) (by omega) (by omega)
  simp (disch := first | omega | assumption | exact gC_L ⟨by omega, by omega⟩ rfl | exact gC_L ⟨by show k.1 + 3 ≤ 10000; omega, by show k.2 + 165 ≤ 1000000; omega⟩ rfl) only [sL_law_857, sL_law_858, sL_law_859, sL_law_860, sL_law_861, sL_law_862, sL_law_863, sL_law_864, sL_law_865, sL_law_866, sL_law_867, sL_law_868, e1, g1, e2, g2, s0, s47, mI_msI, mI_msP, mI_msA, mP_msI, mP_msP, mP_msA, mS_msI, mS_msP, mS_msA, mN_msI, mN_msP, mN_msA, Option.toList_some, Option.toList_none, List.cons_append, List.nil_append, ai_rf_s, ai_rf_n, ai_kl_i, ai_kl_r, ai_kl_n, b2_0, b2_1, if_true, if_false, and_true, true_and, or_false, false_or, or_true, true_or, and_false, false_and, not_true_eq_false, not_false_eq_true, seval, jN, jI_add, jI_sub, jI_mul, jI_neg, jj_lt, jj_le, jj_eq, jj_div, jj_rem, jl_cl, b2_j0, b2_j1, show (0 : Int32) = jI 0 from rfl, show (1 : Int32) = jI 1 from rfl, show (2 : Int32) = jI 2 from rfl, show (3 : Int32) = jI 3 from rfl, show (4 : Int32) = jI 4 from rfl, show (5 : Int32) = jI 5 from rfl, show (6 : Int32) = jI 6 from rfl, show (7 : Int32) = jI 7 from rfl, show (63 : Int32) = jI 63 from rfl, Decidable.not_not, eq_self, lg_self]
  refine Cl.imp (Cl_sc hM1) (fun r2 w2 hh2 => ?_)
  obtain ⟨⟨rfl, L2⟩, sc2⟩ := hh2
  have h5 := nx w2 (sr.sc sc2) L2
  rw [Int.natCast_add] at h5
  simp (disch := first | omega | assumption | exact gC_L ⟨by omega, by omega⟩ rfl | exact gC_L ⟨by show k.1 + 3 ≤ 10000; omega, by show k.2 + 165 ≤ 1000000; omega⟩ rfl) only [sL_law_871, sL_law_874, sL_law_875, sL_law_1488, sL_law_1491, mI_msI, mI_msP, mI_msA, mP_msI, mP_msP, mP_msA, mS_msI, mS_msP, mS_msA, mN_msI, mN_msP, mN_msA, Option.toList_some, Option.toList_none, List.cons_append, List.nil_append, ai_rf_s, ai_rf_n, ai_kl_i, ai_kl_r, ai_kl_n, b2_0, b2_1, if_true, if_false, and_true, true_and, or_false, false_or, or_true, true_or, and_false, false_and, not_true_eq_false, not_false_eq_true, seval, jN, jI_add, jI_sub, jI_mul, jI_neg, jj_lt, jj_le, jj_eq, jj_div, jj_rem, jl_cl, b2_j0, b2_j1, show (0 : Int32) = jI 0 from rfl, show (1 : Int32) = jI 1 from rfl, show (2 : Int32) = jI 2 from rfl, show (3 : Int32) = jI 3 from rfl, show (4 : Int32) = jI 4 from rfl, show (5 : Int32) = jI 5 from rfl, show (6 : Int32) = jI 6 from rfl, show (7 : Int32) = jI 7 from rfl, show (63 : Int32) = jI 63 from rfl, Decidable.not_not, eq_self, lg_self]
  exact h5
set_option maxHeartbeats 4000000 in
theorem lc_21 {D L i : Nat} {X : Nat → Int} {w : ai_H} {k : Nat × Nat} {Q : Option Value → ai_H → Prop} (sr : SRc w L X) (hL : LI w) (iL : i + 7 ≤ L) (L0 : L ≤ 3584) (hk : k.1 ≤ 9000 ∧ k.2 ≤ 900000) (lo : ∀ j, -2147483648 ≤ X j) (hi : ∀ j, X j < 2147483648) (nx : ∀ w', SRc w' L X → LI w' → Ex (D + 61) mL_law 18 [some (.ref 1000300), some (.ref 0), some (.ref 47), some (.int (jI ((i + 7 : Nat) : Int)))] [] k w' Q) : Ex (D + 61) mL_law 876 [some (.ref 1000300), some (.ref 0), some (.ref 47), some (.int (jI i))] [] k w Q := by
  have s0 := sr.2.2.2.1
  have s47 := sr.2.2.2.2.1
  have e1 := sr.v (j := (i : Int) + 1) (n := i + 1) (by omega)
  have g1 := sr.g L0 (j := (i : Int) + 1) (by omega) (by omega)
  have e2 := sr.v (j := (i : Int) + 2) (n := i + 2) (by omega)
  have g2 := sr.g L0 (j := (i : Int) + 2) (by omega) (by omega)
  obtain ⟨g, h, im, mv, S, tn, tp, nt, T, hB, hA, hM⟩ := hL
  simp (disch := first | omega | assumption | exact gC_L ⟨by omega, by omega⟩ rfl | exact gC_L ⟨by show k.1 + 3 ≤ 10000; omega, by show k.2 + 165 ≤ 1000000; omega⟩ rfl) only [sL_law_876, sL_law_877, sL_law_878, sL_law_879, sL_law_880, sL_law_881, sL_law_882, sL_law_883, sL_law_884, sL_law_885, sL_law_886, sL_law_887, e1, g1, e2, g2, s0, s47, mI_msI, mI_msP, mI_msA, mP_msI, mP_msP, mP_msA, mS_msI, mS_msP, mS_msA, mN_msI, mN_msP, mN_msA, Option.toList_some, Option.toList_none, List.cons_append, List.nil_append, ai_rf_s, ai_rf_n, ai_kl_i, ai_kl_r, ai_kl_n, b2_0, b2_1, if_true, if_false, and_true, true_and, or_false, false_or, or_true, true_or, and_false, false_and, not_true_eq_false, not_false_eq_true, seval, jN, jI_add, jI_sub, jI_mul, jI_neg, jj_lt, jj_le, jj_eq, jj_div, jj_rem, jl_cl, b2_j0, b2_j1, show (0 : Int32) = jI 0 from rfl, show (1 : Int32) = jI 1 from rfl, show (2 : Int32) = jI 2 from rfl, show (3 : Int32) = jI 3 from rfl, show (4 : Int32) = jI 4 from rfl, show (5 : Int32) = jI 5 from rfl, show (6 : Int32) = jI 6 from rfl, show (7 : Int32) = jI 7 from rfl, show (63 : Int32) = jI 63 from rfl, Decidable.not_not, eq_self, lg_self]
  refine Cl.imp (Cl_sc (p_loosest hB hA hM (lo (i + 1)) (hi (i + 1)) (lo (i + 2)) (hi (i + 2)))) (fun r w1 hh => ?_)
  obtain ⟨⟨z, rfl, hM1⟩, sc⟩ := hh
  have sr := sr.sc sc
  have s0 := sr.2.2.2.1
  have s47 := sr.2.2.2.2.1
  have e1 := sr.v (j := (i : Int) + 1) (n := i + 1) (by omega)
  have g1 := sr.g L0 (j := (i : Int) + 1) (by omega) (by omega)
  have e2 := sr.v (j := (i : Int) + 2) (n := i + 2) (by omega)
  have g2 := sr.g L0 (j := (i : Int) + 2) (by omega) (by omega)
  simp (disch := first | omega | assumption | exact gC_L ⟨by omega, by omega⟩ rfl | exact gC_L ⟨by show k.1 + 3 ≤ 10000; omega, by show k.2 + 165 ≤ 1000000; omega⟩ rfl) only [sL_law_890, sL_law_891, sL_law_892, sL_law_893, sL_law_894, sL_law_895, sL_law_896, sL_law_897, sL_law_898, sL_law_899, sL_law_900, sL_law_901, e1, g1, e2, g2, s0, s47, mI_msI, mI_msP, mI_msA, mP_msI, mP_msP, mP_msA, mS_msI, mS_msP, mS_msA, mN_msI, mN_msP, mN_msA, Option.toList_some, Option.toList_none, List.cons_append, List.nil_append, ai_rf_s, ai_rf_n, ai_kl_i, ai_kl_r, ai_kl_n, b2_0, b2_1, if_true, if_false, and_true, true_and, or_false, false_or, or_true, true_or, and_false, false_and, not_true_eq_false, not_false_eq_true, seval, jN, jI_add, jI_sub, jI_mul, jI_neg, jj_lt, jj_le, jj_eq, jj_div, jj_rem, jl_cl, b2_j0, b2_j1, show (0 : Int32) = jI 0 from rfl, show (1 : Int32) = jI 1 from rfl, show (2 : Int32) = jI 2 from rfl, show (3 : Int32) = jI 3 from rfl, show (4 : Int32) = jI 4 from rfl, show (5 : Int32) = jI 5 from rfl, show (6 : Int32) = jI 6 from rfl, show (7 : Int32) = jI 7 from rfl, show (63 : Int32) = jI 63 from rfl, Decidable.not_not, eq_self, lg_self]
  refine Cl.imp (Cl_sc hM1) (fun r2 w2 hh2 => ?_)
  obtain ⟨⟨rfl, L2⟩, sc2⟩ := hh2
  have h5 := nx w2 (sr.sc sc2) L2
  rw [Int.natCast_add] at h5
  simp (disch := first | omega | assumption | exact gC_L ⟨by omega, by omega⟩ rfl | exact gC_L ⟨by show k.1 + 3 ≤ 10000; omega, by show k.2 + 165 ≤ 1000000; omega⟩ rfl) only [sL_law_904, sL_law_907, sL_law_908, sL_law_1488, sL_law_1491, mI_msI, mI_msP, mI_msA, mP_msI, mP_msP, mP_msA, mS_msI, mS_msP, mS_msA, mN_msI, mN_msP, mN_msA, Option.toList_some, Option.toList_none, List.cons_append, List.nil_append, ai_rf_s, ai_rf_n, ai_kl_i, ai_kl_r, ai_kl_n, b2_0, b2_1, if_true, if_false, and_true, true_and, or_false, false_or, or_true, true_or, and_false, false_and, not_true_eq_false, not_false_eq_true, seval, jN, jI_add, jI_sub, jI_mul, jI_neg, jj_lt, jj_le, jj_eq, jj_div, jj_rem, jl_cl, b2_j0, b2_j1, show (0 : Int32) = jI 0 from rfl, show (1 : Int32) = jI 1 from rfl, show (2 : Int32) = jI 2 from rfl, show (3 : Int32) = jI 3 from rfl, show (4 : Int32) = jI 4 from rfl, show (5 : Int32) = jI 5 from rfl, show (6 : Int32) = jI 6 from rfl, show (7 : Int32) = jI 7 from rfl, show (63 : Int32) = jI 63 from rfl, Decidable.not_not, eq_self, lg_self]
  exact h5
set_option maxHeartbeats 4000000 in
theorem lc_22 {D L i : Nat} {X : Nat → Int} {w : ai_H} {k : Nat × Nat} {Q : Option Value → ai_H → Prop} (sr : SRc w L X) (hL : LI w) (iL : i + 7 ≤ L) (L0 : L ≤ 3584) (hk : k.1 ≤ 9000 ∧ k.2 ≤ 900000) (lo : ∀ j, -2147483648 ≤ X j) (hi : ∀ j, X j < 2147483648) (nx : ∀ w', SRc w' L X → LI w' → Ex (D + 61) mL_law 18 [some (.ref 1000300), some (.ref 0), some (.ref 47), some (.int (jI ((i + 7 : Nat) : Int)))] [] k w' Q) : Ex (D + 61) mL_law 909 [some (.ref 1000300), some (.ref 0), some (.ref 47), some (.int (jI i))] [] k w Q := by
  have s0 := sr.2.2.2.1
  have s47 := sr.2.2.2.2.1
  have e1 := sr.v (j := (i : Int) + 1) (n := i + 1) (by omega)
  have g1 := sr.g L0 (j := (i : Int) + 1) (by omega) (by omega)
  have e2 := sr.v (j := (i : Int) + 2) (n := i + 2) (by omega)
  have g2 := sr.g L0 (j := (i : Int) + 2) (by omega) (by omega)
  obtain ⟨g, h, im, mv, S, tn, tp, nt, T, hB, hA, hM⟩ := hL
  simp (disch := first | omega | assumption | exact gC_L ⟨by omega, by omega⟩ rfl | exact gC_L ⟨by show k.1 + 3 ≤ 10000; omega, by show k.2 + 165 ≤ 1000000; omega⟩ rfl) only [sL_law_909, sL_law_910, sL_law_911, sL_law_912, sL_law_913, sL_law_914, sL_law_915, sL_law_916, sL_law_917, sL_law_918, sL_law_919, sL_law_920, e1, g1, e2, g2, s0, s47, mI_msI, mI_msP, mI_msA, mP_msI, mP_msP, mP_msA, mS_msI, mS_msP, mS_msA, mN_msI, mN_msP, mN_msA, Option.toList_some, Option.toList_none, List.cons_append, List.nil_append, ai_rf_s, ai_rf_n, ai_kl_i, ai_kl_r, ai_kl_n, b2_0, b2_1, if_true, if_false, and_true, true_and, or_false, false_or, or_true, true_or, and_false, false_and, not_true_eq_false, not_false_eq_true, seval, jN, jI_add, jI_sub, jI_mul, jI_neg, jj_lt, jj_le, jj_eq, jj_div, jj_rem, jl_cl, b2_j0, b2_j1, show (0 : Int32) = jI 0 from rfl, show (1 : Int32) = jI 1 from rfl, show (2 : Int32) = jI 2 from rfl, show (3 : Int32) = jI 3 from rfl, show (4 : Int32) = jI 4 from rfl, show (5 : Int32) = jI 5 from rfl, show (6 : Int32) = jI 6 from rfl, show (7 : Int32) = jI 7 from rfl, show (63 : Int32) = jI 63 from rfl, Decidable.not_not, eq_self, lg_self]
  refine Cl.imp (Cl_sc (p_deals hB hA hM (lo (i + 1)) (hi (i + 1)) (lo (i + 2)) (hi (i + 2)))) (fun r w1 hh => ?_)
  obtain ⟨⟨z, rfl, hM1⟩, sc⟩ := hh
  have sr := sr.sc sc
  have s0 := sr.2.2.2.1
  have s47 := sr.2.2.2.2.1
  have e1 := sr.v (j := (i : Int) + 1) (n := i + 1) (by omega)
  have g1 := sr.g L0 (j := (i : Int) + 1) (by omega) (by omega)
  have e2 := sr.v (j := (i : Int) + 2) (n := i + 2) (by omega)
  have g2 := sr.g L0 (j := (i : Int) + 2) (by omega) (by omega)
  simp (disch := first | omega | assumption | exact gC_L ⟨by omega, by omega⟩ rfl | exact gC_L ⟨by show k.1 + 3 ≤ 10000; omega, by show k.2 + 165 ≤ 1000000; omega⟩ rfl) only [sL_law_923, sL_law_924, sL_law_925, sL_law_926, sL_law_927, sL_law_928, sL_law_929, sL_law_930, sL_law_931, sL_law_932, sL_law_933, sL_law_934, e1, g1, e2, g2, s0, s47, mI_msI, mI_msP, mI_msA, mP_msI, mP_msP, mP_msA, mS_msI, mS_msP, mS_msA, mN_msI, mN_msP, mN_msA, Option.toList_some, Option.toList_none, List.cons_append, List.nil_append, ai_rf_s, ai_rf_n, ai_kl_i, ai_kl_r, ai_kl_n, b2_0, b2_1, if_true, if_false, and_true, true_and, or_false, false_or, or_true, true_or, and_false, false_and, not_true_eq_false, not_false_eq_true, seval, jN, jI_add, jI_sub, jI_mul, jI_neg, jj_lt, jj_le, jj_eq, jj_div, jj_rem, jl_cl, b2_j0, b2_j1, show (0 : Int32) = jI 0 from rfl, show (1 : Int32) = jI 1 from rfl, show (2 : Int32) = jI 2 from rfl, show (3 : Int32) = jI 3 from rfl, show (4 : Int32) = jI 4 from rfl, show (5 : Int32) = jI 5 from rfl, show (6 : Int32) = jI 6 from rfl, show (7 : Int32) = jI 7 from rfl, show (63 : Int32) = jI 63 from rfl, Decidable.not_not, eq_self, lg_self]
  refine Cl.imp (Cl_sc hM1) (fun r2 w2 hh2 => ?_)
  obtain ⟨⟨rfl, L2⟩, sc2⟩ := hh2
  have h5 := nx w2 (sr.sc sc2) L2
  rw [Int.natCast_add] at h5
  simp (disch := first | omega | assumption | exact gC_L ⟨by omega, by omega⟩ rfl | exact gC_L ⟨by show k.1 + 3 ≤ 10000; omega, by show k.2 + 165 ≤ 1000000; omega⟩ rfl) only [sL_law_937, sL_law_940, sL_law_941, sL_law_1488, sL_law_1491, mI_msI, mI_msP, mI_msA, mP_msI, mP_msP, mP_msA, mS_msI, mS_msP, mS_msA, mN_msI, mN_msP, mN_msA, Option.toList_some, Option.toList_none, List.cons_append, List.nil_append, ai_rf_s, ai_rf_n, ai_kl_i, ai_kl_r, ai_kl_n, b2_0, b2_1, if_true, if_false, and_true, true_and, or_false, false_or, or_true, true_or, and_false, false_and, not_true_eq_false, not_false_eq_true, seval, jN, jI_add, jI_sub, jI_mul, jI_neg, jj_lt, jj_le, jj_eq, jj_div, jj_rem, jl_cl, b2_j0, b2_j1, show (0 : Int32) = jI 0 from rfl, show (1 : Int32) = jI 1 from rfl, show (2 : Int32) = jI 2 from rfl, show (3 : Int32) = jI 3 from rfl, show (4 : Int32) = jI 4 from rfl, show (5 : Int32) = jI 5 from rfl, show (6 : Int32) = jI 6 from rfl, show (7 : Int32) = jI 7 from rfl, show (63 : Int32) = jI 63 from rfl, Decidable.not_not, eq_self, lg_self]
  exact h5
set_option maxHeartbeats 4000000 in
theorem lc_23 {D L i : Nat} {X : Nat → Int} {w : ai_H} {k : Nat × Nat} {Q : Option Value → ai_H → Prop} (sr : SRc w L X) (hL : LI w) (iL : i + 7 ≤ L) (L0 : L ≤ 3584) (hk : k.1 ≤ 9000 ∧ k.2 ≤ 900000) (lo : ∀ j, -2147483648 ≤ X j) (hi : ∀ j, X j < 2147483648) (nx : ∀ w', SRc w' L X → LI w' → Ex (D + 61) mL_law 18 [some (.ref 1000300), some (.ref 0), some (.ref 47), some (.int (jI ((i + 7 : Nat) : Int)))] [] k w' Q) : Ex (D + 61) mL_law 942 [some (.ref 1000300), some (.ref 0), some (.ref 47), some (.int (jI i))] [] k w Q := by
  have s0 := sr.2.2.2.1
  have s47 := sr.2.2.2.2.1
  have e1 := sr.v (j := (i : Int) + 1) (n := i + 1) (by omega)
  have g1 := sr.g L0 (j := (i : Int) + 1) (by omega) (by omega)
  obtain ⟨g, h, im, mv, S, tn, tp, nt, T, hB, hA, hM⟩ := hL
  simp (disch := first | omega | assumption | exact gC_L ⟨by omega, by omega⟩ rfl | exact gC_L ⟨by show k.1 + 3 ≤ 10000; omega, by show k.2 + 165 ≤ 1000000; omega⟩ rfl) only [sL_law_942, sL_law_943, sL_law_944, sL_law_945, sL_law_946, sL_law_947, sL_law_948, e1, g1, s0, s47, mI_msI, mI_msP, mI_msA, mP_msI, mP_msP, mP_msA, mS_msI, mS_msP, mS_msA, mN_msI, mN_msP, mN_msA, Option.toList_some, Option.toList_none, List.cons_append, List.nil_append, ai_rf_s, ai_rf_n, ai_kl_i, ai_kl_r, ai_kl_n, b2_0, b2_1, if_true, if_false, and_true, true_and, or_false, false_or, or_true, true_or, and_false, false_and, not_true_eq_false, not_false_eq_true, seval, jN, jI_add, jI_sub, jI_mul, jI_neg, jj_lt, jj_le, jj_eq, jj_div, jj_rem, jl_cl, b2_j0, b2_j1, show (0 : Int32) = jI 0 from rfl, show (1 : Int32) = jI 1 from rfl, show (2 : Int32) = jI 2 from rfl, show (3 : Int32) = jI 3 from rfl, show (4 : Int32) = jI 4 from rfl, show (5 : Int32) = jI 5 from rfl, show (6 : Int32) = jI 6 from rfl, show (7 : Int32) = jI 7 from rfl, show (63 : Int32) = jI 63 from rfl, Decidable.not_not, eq_self, lg_self]
  refine Cl.imp (Cl_sc (p_judge hB hA hM (lo (i + 1)) (hi (i + 1)))) (fun r w1 hh => ?_)
  obtain ⟨⟨z, rfl, hM1⟩, sc⟩ := hh
  have sr := sr.sc sc
  have s0 := sr.2.2.2.1
  have s47 := sr.2.2.2.2.1
  have e1 := sr.v (j := (i : Int) + 1) (n := i + 1) (by omega)
  have g1 := sr.g L0 (j := (i : Int) + 1) (by omega) (by omega)
  simp (disch := first | omega | assumption | exact gC_L ⟨by omega, by omega⟩ rfl | exact gC_L ⟨by show k.1 + 3 ≤ 10000; omega, by show k.2 + 165 ≤ 1000000; omega⟩ rfl) only [sL_law_951, sL_law_952, sL_law_953, sL_law_954, sL_law_955, sL_law_956, sL_law_957, e1, g1, s0, s47, mI_msI, mI_msP, mI_msA, mP_msI, mP_msP, mP_msA, mS_msI, mS_msP, mS_msA, mN_msI, mN_msP, mN_msA, Option.toList_some, Option.toList_none, List.cons_append, List.nil_append, ai_rf_s, ai_rf_n, ai_kl_i, ai_kl_r, ai_kl_n, b2_0, b2_1, if_true, if_false, and_true, true_and, or_false, false_or, or_true, true_or, and_false, false_and, not_true_eq_false, not_false_eq_true, seval, jN, jI_add, jI_sub, jI_mul, jI_neg, jj_lt, jj_le, jj_eq, jj_div, jj_rem, jl_cl, b2_j0, b2_j1, show (0 : Int32) = jI 0 from rfl, show (1 : Int32) = jI 1 from rfl, show (2 : Int32) = jI 2 from rfl, show (3 : Int32) = jI 3 from rfl, show (4 : Int32) = jI 4 from rfl, show (5 : Int32) = jI 5 from rfl, show (6 : Int32) = jI 6 from rfl, show (7 : Int32) = jI 7 from rfl, show (63 : Int32) = jI 63 from rfl, Decidable.not_not, eq_self, lg_self]
  refine Cl.imp (Cl_sc hM1) (fun r2 w2 hh2 => ?_)
  obtain ⟨⟨rfl, L2⟩, sc2⟩ := hh2
  have h5 := nx w2 (sr.sc sc2) L2
  rw [Int.natCast_add] at h5
  simp (disch := first | omega | assumption | exact gC_L ⟨by omega, by omega⟩ rfl | exact gC_L ⟨by show k.1 + 3 ≤ 10000; omega, by show k.2 + 165 ≤ 1000000; omega⟩ rfl) only [sL_law_960, sL_law_963, sL_law_964, sL_law_1488, sL_law_1491, mI_msI, mI_msP, mI_msA, mP_msI, mP_msP, mP_msA, mS_msI, mS_msP, mS_msA, mN_msI, mN_msP, mN_msA, Option.toList_some, Option.toList_none, List.cons_append, List.nil_append, ai_rf_s, ai_rf_n, ai_kl_i, ai_kl_r, ai_kl_n, b2_0, b2_1, if_true, if_false, and_true, true_and, or_false, false_or, or_true, true_or, and_false, false_and, not_true_eq_false, not_false_eq_true, seval, jN, jI_add, jI_sub, jI_mul, jI_neg, jj_lt, jj_le, jj_eq, jj_div, jj_rem, jl_cl, b2_j0, b2_j1, show (0 : Int32) = jI 0 from rfl, show (1 : Int32) = jI 1 from rfl, show (2 : Int32) = jI 2 from rfl, show (3 : Int32) = jI 3 from rfl, show (4 : Int32) = jI 4 from rfl, show (5 : Int32) = jI 5 from rfl, show (6 : Int32) = jI 6 from rfl, show (7 : Int32) = jI 7 from rfl, show (63 : Int32) = jI 63 from rfl, Decidable.not_not, eq_self, lg_self]
  exact h5
set_option maxHeartbeats 4000000 in
theorem lc_24 {D L i : Nat} {X : Nat → Int} {w : ai_H} {k : Nat × Nat} {Q : Option Value → ai_H → Prop} (sr : SRc w L X) (hL : LI w) (iL : i + 7 ≤ L) (L0 : L ≤ 3584) (hk : k.1 ≤ 9000 ∧ k.2 ≤ 900000) (lo : ∀ j, -2147483648 ≤ X j) (hi : ∀ j, X j < 2147483648) (nx : ∀ w', SRc w' L X → LI w' → Ex (D + 61) mL_law 18 [some (.ref 1000300), some (.ref 0), some (.ref 47), some (.int (jI ((i + 7 : Nat) : Int)))] [] k w' Q) : Ex (D + 61) mL_law 965 [some (.ref 1000300), some (.ref 0), some (.ref 47), some (.int (jI i))] [] k w Q := by
  have s0 := sr.2.2.2.1
  have s47 := sr.2.2.2.2.1
  have e1 := sr.v (j := (i : Int) + 1) (n := i + 1) (by omega)
  have g1 := sr.g L0 (j := (i : Int) + 1) (by omega) (by omega)
  have e2 := sr.v (j := (i : Int) + 2) (n := i + 2) (by omega)
  have g2 := sr.g L0 (j := (i : Int) + 2) (by omega) (by omega)
  obtain ⟨g, h, im, mv, S, tn, tp, nt, T, hB, hA, hM⟩ := hL
  simp (disch := first | omega | assumption | exact gC_L ⟨by omega, by omega⟩ rfl | exact gC_L ⟨by show k.1 + 3 ≤ 10000; omega, by show k.2 + 165 ≤ 1000000; omega⟩ rfl) only [sL_law_965, sL_law_966, sL_law_967, sL_law_968, sL_law_969, sL_law_970, sL_law_971, sL_law_972, sL_law_973, sL_law_974, sL_law_975, sL_law_976, e1, g1, e2, g2, s0, s47, mI_msI, mI_msP, mI_msA, mP_msI, mP_msP, mP_msA, mS_msI, mS_msP, mS_msA, mN_msI, mN_msP, mN_msA, Option.toList_some, Option.toList_none, List.cons_append, List.nil_append, ai_rf_s, ai_rf_n, ai_kl_i, ai_kl_r, ai_kl_n, b2_0, b2_1, if_true, if_false, and_true, true_and, or_false, false_or, or_true, true_or, and_false, false_and, not_true_eq_false, not_false_eq_true, seval, jN, jI_add, jI_sub, jI_mul, jI_neg, jj_lt, jj_le, jj_eq, jj_div, jj_rem, jl_cl, b2_j0, b2_j1, show (0 : Int32) = jI 0 from rfl, show (1 : Int32) = jI 1 from rfl, show (2 : Int32) = jI 2 from rfl, show (3 : Int32) = jI 3 from rfl, show (4 : Int32) = jI 4 from rfl, show (5 : Int32) = jI 5 from rfl, show (6 : Int32) = jI 6 from rfl, show (7 : Int32) = jI 7 from rfl, show (63 : Int32) = jI 63 from rfl, Decidable.not_not, eq_self, lg_self]
  refine Cl.imp (Cl_sc (p_end hB hA hM (lo (i + 1)) (hi (i + 1)) (lo (i + 2)) (hi (i + 2)))) (fun r w1 hh => ?_)
  obtain ⟨⟨z, rfl, hM1⟩, sc⟩ := hh
  have sr := sr.sc sc
  have s0 := sr.2.2.2.1
  have s47 := sr.2.2.2.2.1
  have e1 := sr.v (j := (i : Int) + 1) (n := i + 1) (by omega)
  have g1 := sr.g L0 (j := (i : Int) + 1) (by omega) (by omega)
  have e2 := sr.v (j := (i : Int) + 2) (n := i + 2) (by omega)
  have g2 := sr.g L0 (j := (i : Int) + 2) (by omega) (by omega)
  simp (disch := first | omega | assumption | exact gC_L ⟨by omega, by omega⟩ rfl | exact gC_L ⟨by show k.1 + 3 ≤ 10000; omega, by show k.2 + 165 ≤ 1000000; omega⟩ rfl) only [sL_law_979, sL_law_980, sL_law_981, sL_law_982, sL_law_983, sL_law_984, sL_law_985, sL_law_986, sL_law_987, sL_law_988, sL_law_989, sL_law_990, e1, g1, e2, g2, s0, s47, mI_msI, mI_msP, mI_msA, mP_msI, mP_msP, mP_msA, mS_msI, mS_msP, mS_msA, mN_msI, mN_msP, mN_msA, Option.toList_some, Option.toList_none, List.cons_append, List.nil_append, ai_rf_s, ai_rf_n, ai_kl_i, ai_kl_r, ai_kl_n, b2_0, b2_1, if_true, if_false, and_true, true_and, or_false, false_or, or_true, true_or, and_false, false_and, not_true_eq_false, not_false_eq_true, seval, jN, jI_add, jI_sub, jI_mul, jI_neg, jj_lt, jj_le, jj_eq, jj_div, jj_rem, jl_cl, b2_j0, b2_j1, show (0 : Int32) = jI 0 from rfl, show (1 : Int32) = jI 1 from rfl, show (2 : Int32) = jI 2 from rfl, show (3 : Int32) = jI 3 from rfl, show (4 : Int32) = jI 4 from rfl, show (5 : Int32) = jI 5 from rfl, show (6 : Int32) = jI 6 from rfl, show (7 : Int32) = jI 7 from rfl, show (63 : Int32) = jI 63 from rfl, Decidable.not_not, eq_self, lg_self]
  refine Cl.imp (Cl_sc hM1) (fun r2 w2 hh2 => ?_)
  obtain ⟨⟨rfl, L2⟩, sc2⟩ := hh2
  have h5 := nx w2 (sr.sc sc2) L2
  rw [Int.natCast_add] at h5
  simp (disch := first | omega | assumption | exact gC_L ⟨by omega, by omega⟩ rfl | exact gC_L ⟨by show k.1 + 3 ≤ 10000; omega, by show k.2 + 165 ≤ 1000000; omega⟩ rfl) only [sL_law_993, sL_law_996, sL_law_997, sL_law_1488, sL_law_1491, mI_msI, mI_msP, mI_msA, mP_msI, mP_msP, mP_msA, mS_msI, mS_msP, mS_msA, mN_msI, mN_msP, mN_msA, Option.toList_some, Option.toList_none, List.cons_append, List.nil_append, ai_rf_s, ai_rf_n, ai_kl_i, ai_kl_r, ai_kl_n, b2_0, b2_1, if_true, if_false, and_true, true_and, or_false, false_or, or_true, true_or, and_false, false_and, not_true_eq_false, not_false_eq_true, seval, jN, jI_add, jI_sub, jI_mul, jI_neg, jj_lt, jj_le, jj_eq, jj_div, jj_rem, jl_cl, b2_j0, b2_j1, show (0 : Int32) = jI 0 from rfl, show (1 : Int32) = jI 1 from rfl, show (2 : Int32) = jI 2 from rfl, show (3 : Int32) = jI 3 from rfl, show (4 : Int32) = jI 4 from rfl, show (5 : Int32) = jI 5 from rfl, show (6 : Int32) = jI 6 from rfl, show (7 : Int32) = jI 7 from rfl, show (63 : Int32) = jI 63 from rfl, Decidable.not_not, eq_self, lg_self]
  exact h5
set_option maxHeartbeats 4000000 in
theorem lc_25 {D L i : Nat} {X : Nat → Int} {w : ai_H} {k : Nat × Nat} {Q : Option Value → ai_H → Prop} (sr : SRc w L X) (hL : LI w) (iL : i + 7 ≤ L) (L0 : L ≤ 3584) (hk : k.1 ≤ 9000 ∧ k.2 ≤ 900000) (lo : ∀ j, -2147483648 ≤ X j) (hi : ∀ j, X j < 2147483648) (nx : ∀ w', SRc w' L X → LI w' → Ex (D + 61) mL_law 18 [some (.ref 1000300), some (.ref 0), some (.ref 47), some (.int (jI ((i + 7 : Nat) : Int)))] [] k w' Q) : Ex (D + 61) mL_law 998 [some (.ref 1000300), some (.ref 0), some (.ref 47), some (.int (jI i))] [] k w Q := by
  have s0 := sr.2.2.2.1
  have s47 := sr.2.2.2.2.1
  have e1 := sr.v (j := (i : Int) + 1) (n := i + 1) (by omega)
  have g1 := sr.g L0 (j := (i : Int) + 1) (by omega) (by omega)
  have e2 := sr.v (j := (i : Int) + 2) (n := i + 2) (by omega)
  have g2 := sr.g L0 (j := (i : Int) + 2) (by omega) (by omega)
  have e3 := sr.v (j := (i : Int) + 3) (n := i + 3) (by omega)
  have g3 := sr.g L0 (j := (i : Int) + 3) (by omega) (by omega)
  obtain ⟨g, h, im, mv, S, tn, tp, nt, T, hB, hA, hM⟩ := hL
  simp (disch := first | omega | assumption | exact gC_L ⟨by omega, by omega⟩ rfl | exact gC_L ⟨by show k.1 + 3 ≤ 10000; omega, by show k.2 + 165 ≤ 1000000; omega⟩ rfl) only [sL_law_998, sL_law_999, sL_law_1000, sL_law_1001, sL_law_1002, sL_law_1003, sL_law_1004, sL_law_1005, sL_law_1006, sL_law_1007, sL_law_1008, sL_law_1009, sL_law_1010, sL_law_1011, sL_law_1012, sL_law_1013, sL_law_1014, e1, g1, e2, g2, e3, g3, s0, s47, mI_msI, mI_msP, mI_msA, mP_msI, mP_msP, mP_msA, mS_msI, mS_msP, mS_msA, mN_msI, mN_msP, mN_msA, Option.toList_some, Option.toList_none, List.cons_append, List.nil_append, ai_rf_s, ai_rf_n, ai_kl_i, ai_kl_r, ai_kl_n, b2_0, b2_1, if_true, if_false, and_true, true_and, or_false, false_or, or_true, true_or, and_false, false_and, not_true_eq_false, not_false_eq_true, seval, jN, jI_add, jI_sub, jI_mul, jI_neg, jj_lt, jj_le, jj_eq, jj_div, jj_rem, jl_cl, b2_j0, b2_j1, show (0 : Int32) = jI 0 from rfl, show (1 : Int32) = jI 1 from rfl, show (2 : Int32) = jI 2 from rfl, show (3 : Int32) = jI 3 from rfl, show (4 : Int32) = jI 4 from rfl, show (5 : Int32) = jI 5 from rfl, show (6 : Int32) = jI 6 from rfl, show (7 : Int32) = jI 7 from rfl, show (63 : Int32) = jI 63 from rfl, Decidable.not_not, eq_self, lg_self]
  refine Cl.imp (Cl_sc (p_kinds hB hA hM (lo (i + 1)) (hi (i + 1)) (lo (i + 2)) (hi (i + 2)) (lo (i + 3)) (hi (i + 3)))) (fun r w1 hh => ?_)
  obtain ⟨⟨z, rfl, hM1⟩, sc⟩ := hh
  have sr := sr.sc sc
  have s0 := sr.2.2.2.1
  have s47 := sr.2.2.2.2.1
  have e1 := sr.v (j := (i : Int) + 1) (n := i + 1) (by omega)
  have g1 := sr.g L0 (j := (i : Int) + 1) (by omega) (by omega)
  have e2 := sr.v (j := (i : Int) + 2) (n := i + 2) (by omega)
  have g2 := sr.g L0 (j := (i : Int) + 2) (by omega) (by omega)
  have e3 := sr.v (j := (i : Int) + 3) (n := i + 3) (by omega)
  have g3 := sr.g L0 (j := (i : Int) + 3) (by omega) (by omega)
  simp (disch := first | omega | assumption | exact gC_L ⟨by omega, by omega⟩ rfl | exact gC_L ⟨by show k.1 + 3 ≤ 10000; omega, by show k.2 + 165 ≤ 1000000; omega⟩ rfl) only [sL_law_1017, sL_law_1018, sL_law_1019, sL_law_1020, sL_law_1021, sL_law_1022, sL_law_1023, sL_law_1024, sL_law_1025, sL_law_1026, sL_law_1027, sL_law_1028, sL_law_1029, sL_law_1030, sL_law_1031, sL_law_1032, sL_law_1033, e1, g1, e2, g2, e3, g3, s0, s47, mI_msI, mI_msP, mI_msA, mP_msI, mP_msP, mP_msA, mS_msI, mS_msP, mS_msA, mN_msI, mN_msP, mN_msA, Option.toList_some, Option.toList_none, List.cons_append, List.nil_append, ai_rf_s, ai_rf_n, ai_kl_i, ai_kl_r, ai_kl_n, b2_0, b2_1, if_true, if_false, and_true, true_and, or_false, false_or, or_true, true_or, and_false, false_and, not_true_eq_false, not_false_eq_true, seval, jN, jI_add, jI_sub, jI_mul, jI_neg, jj_lt, jj_le, jj_eq, jj_div, jj_rem, jl_cl, b2_j0, b2_j1, show (0 : Int32) = jI 0 from rfl, show (1 : Int32) = jI 1 from rfl, show (2 : Int32) = jI 2 from rfl, show (3 : Int32) = jI 3 from rfl, show (4 : Int32) = jI 4 from rfl, show (5 : Int32) = jI 5 from rfl, show (6 : Int32) = jI 6 from rfl, show (7 : Int32) = jI 7 from rfl, show (63 : Int32) = jI 63 from rfl, Decidable.not_not, eq_self, lg_self]
  refine Cl.imp (Cl_sc hM1) (fun r2 w2 hh2 => ?_)
  obtain ⟨⟨rfl, L2⟩, sc2⟩ := hh2
  have h5 := nx w2 (sr.sc sc2) L2
  rw [Int.natCast_add] at h5
  simp (disch := first | omega | assumption | exact gC_L ⟨by omega, by omega⟩ rfl | exact gC_L ⟨by show k.1 + 3 ≤ 10000; omega, by show k.2 + 165 ≤ 1000000; omega⟩ rfl) only [sL_law_1036, sL_law_1039, sL_law_1040, sL_law_1488, sL_law_1491, mI_msI, mI_msP, mI_msA, mP_msI, mP_msP, mP_msA, mS_msI, mS_msP, mS_msA, mN_msI, mN_msP, mN_msA, Option.toList_some, Option.toList_none, List.cons_append, List.nil_append, ai_rf_s, ai_rf_n, ai_kl_i, ai_kl_r, ai_kl_n, b2_0, b2_1, if_true, if_false, and_true, true_and, or_false, false_or, or_true, true_or, and_false, false_and, not_true_eq_false, not_false_eq_true, seval, jN, jI_add, jI_sub, jI_mul, jI_neg, jj_lt, jj_le, jj_eq, jj_div, jj_rem, jl_cl, b2_j0, b2_j1, show (0 : Int32) = jI 0 from rfl, show (1 : Int32) = jI 1 from rfl, show (2 : Int32) = jI 2 from rfl, show (3 : Int32) = jI 3 from rfl, show (4 : Int32) = jI 4 from rfl, show (5 : Int32) = jI 5 from rfl, show (6 : Int32) = jI 6 from rfl, show (7 : Int32) = jI 7 from rfl, show (63 : Int32) = jI 63 from rfl, Decidable.not_not, eq_self, lg_self]
  exact h5
set_option maxHeartbeats 4000000 in
theorem lc_26 {D L i : Nat} {X : Nat → Int} {w : ai_H} {k : Nat × Nat} {Q : Option Value → ai_H → Prop} (sr : SRc w L X) (hL : LI w) (iL : i + 7 ≤ L) (L0 : L ≤ 3584) (hk : k.1 ≤ 9000 ∧ k.2 ≤ 900000) (lo : ∀ j, -2147483648 ≤ X j) (hi : ∀ j, X j < 2147483648) (nx : ∀ w', SRc w' L X → LI w' → Ex (D + 61) mL_law 18 [some (.ref 1000300), some (.ref 0), some (.ref 47), some (.int (jI ((i + 7 : Nat) : Int)))] [] k w' Q) : Ex (D + 61) mL_law 1041 [some (.ref 1000300), some (.ref 0), some (.ref 47), some (.int (jI i))] [] k w Q := by
  have s0 := sr.2.2.2.1
  have s47 := sr.2.2.2.2.1
  have e1 := sr.v (j := (i : Int) + 1) (n := i + 1) (by omega)
  have g1 := sr.g L0 (j := (i : Int) + 1) (by omega) (by omega)
  have e2 := sr.v (j := (i : Int) + 2) (n := i + 2) (by omega)
  have g2 := sr.g L0 (j := (i : Int) + 2) (by omega) (by omega)
  obtain ⟨g, h, im, mv, S, tn, tp, nt, T, hB, hA, hM⟩ := hL
  simp (disch := first | omega | assumption | exact gC_L ⟨by omega, by omega⟩ rfl | exact gC_L ⟨by show k.1 + 3 ≤ 10000; omega, by show k.2 + 165 ≤ 1000000; omega⟩ rfl) only [sL_law_1041, sL_law_1042, sL_law_1043, sL_law_1044, sL_law_1045, sL_law_1046, sL_law_1047, sL_law_1048, sL_law_1049, sL_law_1050, sL_law_1051, sL_law_1052, e1, g1, e2, g2, s0, s47, mI_msI, mI_msP, mI_msA, mP_msI, mP_msP, mP_msA, mS_msI, mS_msP, mS_msA, mN_msI, mN_msP, mN_msA, Option.toList_some, Option.toList_none, List.cons_append, List.nil_append, ai_rf_s, ai_rf_n, ai_kl_i, ai_kl_r, ai_kl_n, b2_0, b2_1, if_true, if_false, and_true, true_and, or_false, false_or, or_true, true_or, and_false, false_and, not_true_eq_false, not_false_eq_true, seval, jN, jI_add, jI_sub, jI_mul, jI_neg, jj_lt, jj_le, jj_eq, jj_div, jj_rem, jl_cl, b2_j0, b2_j1, show (0 : Int32) = jI 0 from rfl, show (1 : Int32) = jI 1 from rfl, show (2 : Int32) = jI 2 from rfl, show (3 : Int32) = jI 3 from rfl, show (4 : Int32) = jI 4 from rfl, show (5 : Int32) = jI 5 from rfl, show (6 : Int32) = jI 6 from rfl, show (7 : Int32) = jI 7 from rfl, show (63 : Int32) = jI 63 from rfl, Decidable.not_not, eq_self, lg_self]
  refine Cl.imp (Cl_sc (p_starts hB hA hM (lo (i + 1)) (hi (i + 1)) (lo (i + 2)) (hi (i + 2)))) (fun r w1 hh => ?_)
  obtain ⟨⟨z, rfl, hM1⟩, sc⟩ := hh
  have sr := sr.sc sc
  have s0 := sr.2.2.2.1
  have s47 := sr.2.2.2.2.1
  have e1 := sr.v (j := (i : Int) + 1) (n := i + 1) (by omega)
  have g1 := sr.g L0 (j := (i : Int) + 1) (by omega) (by omega)
  have e2 := sr.v (j := (i : Int) + 2) (n := i + 2) (by omega)
  have g2 := sr.g L0 (j := (i : Int) + 2) (by omega) (by omega)
  simp (disch := first | omega | assumption | exact gC_L ⟨by omega, by omega⟩ rfl | exact gC_L ⟨by show k.1 + 3 ≤ 10000; omega, by show k.2 + 165 ≤ 1000000; omega⟩ rfl) only [sL_law_1055, sL_law_1056, sL_law_1057, sL_law_1058, sL_law_1059, sL_law_1060, sL_law_1061, sL_law_1062, sL_law_1063, sL_law_1064, sL_law_1065, sL_law_1066, e1, g1, e2, g2, s0, s47, mI_msI, mI_msP, mI_msA, mP_msI, mP_msP, mP_msA, mS_msI, mS_msP, mS_msA, mN_msI, mN_msP, mN_msA, Option.toList_some, Option.toList_none, List.cons_append, List.nil_append, ai_rf_s, ai_rf_n, ai_kl_i, ai_kl_r, ai_kl_n, b2_0, b2_1, if_true, if_false, and_true, true_and, or_false, false_or, or_true, true_or, and_false, false_and, not_true_eq_false, not_false_eq_true, seval, jN, jI_add, jI_sub, jI_mul, jI_neg, jj_lt, jj_le, jj_eq, jj_div, jj_rem, jl_cl, b2_j0, b2_j1, show (0 : Int32) = jI 0 from rfl, show (1 : Int32) = jI 1 from rfl, show (2 : Int32) = jI 2 from rfl, show (3 : Int32) = jI 3 from rfl, show (4 : Int32) = jI 4 from rfl, show (5 : Int32) = jI 5 from rfl, show (6 : Int32) = jI 6 from rfl, show (7 : Int32) = jI 7 from rfl, show (63 : Int32) = jI 63 from rfl, Decidable.not_not, eq_self, lg_self]
  refine Cl.imp (Cl_sc hM1) (fun r2 w2 hh2 => ?_)
  obtain ⟨⟨rfl, L2⟩, sc2⟩ := hh2
  have h5 := nx w2 (sr.sc sc2) L2
  rw [Int.natCast_add] at h5
  simp (disch := first | omega | assumption | exact gC_L ⟨by omega, by omega⟩ rfl | exact gC_L ⟨by show k.1 + 3 ≤ 10000; omega, by show k.2 + 165 ≤ 1000000; omega⟩ rfl) only [sL_law_1069, sL_law_1072, sL_law_1073, sL_law_1488, sL_law_1491, mI_msI, mI_msP, mI_msA, mP_msI, mP_msP, mP_msA, mS_msI, mS_msP, mS_msA, mN_msI, mN_msP, mN_msA, Option.toList_some, Option.toList_none, List.cons_append, List.nil_append, ai_rf_s, ai_rf_n, ai_kl_i, ai_kl_r, ai_kl_n, b2_0, b2_1, if_true, if_false, and_true, true_and, or_false, false_or, or_true, true_or, and_false, false_and, not_true_eq_false, not_false_eq_true, seval, jN, jI_add, jI_sub, jI_mul, jI_neg, jj_lt, jj_le, jj_eq, jj_div, jj_rem, jl_cl, b2_j0, b2_j1, show (0 : Int32) = jI 0 from rfl, show (1 : Int32) = jI 1 from rfl, show (2 : Int32) = jI 2 from rfl, show (3 : Int32) = jI 3 from rfl, show (4 : Int32) = jI 4 from rfl, show (5 : Int32) = jI 5 from rfl, show (6 : Int32) = jI 6 from rfl, show (7 : Int32) = jI 7 from rfl, show (63 : Int32) = jI 63 from rfl, Decidable.not_not, eq_self, lg_self]
  exact h5
set_option maxHeartbeats 4000000 in
theorem lc_27 {D L i : Nat} {X : Nat → Int} {w : ai_H} {k : Nat × Nat} {Q : Option Value → ai_H → Prop} (sr : SRc w L X) (hL : LI w) (iL : i + 7 ≤ L) (L0 : L ≤ 3584) (hk : k.1 ≤ 9000 ∧ k.2 ≤ 900000) (lo : ∀ j, -2147483648 ≤ X j) (hi : ∀ j, X j < 2147483648) (nx : ∀ w', SRc w' L X → LI w' → Ex (D + 61) mL_law 18 [some (.ref 1000300), some (.ref 0), some (.ref 47), some (.int (jI ((i + 7 : Nat) : Int)))] [] k w' Q) : Ex (D + 61) mL_law 1074 [some (.ref 1000300), some (.ref 0), some (.ref 47), some (.int (jI i))] [] k w Q := by
  have s0 := sr.2.2.2.1
  have s47 := sr.2.2.2.2.1
  have e1 := sr.v (j := (i : Int) + 1) (n := i + 1) (by omega)
  have g1 := sr.g L0 (j := (i : Int) + 1) (by omega) (by omega)
  obtain ⟨g, h, im, mv, S, tn, tp, nt, T, hB, hA, hM⟩ := hL
  simp (disch := first | omega | assumption | exact gC_L ⟨by omega, by omega⟩ rfl | exact gC_L ⟨by show k.1 + 3 ≤ 10000; omega, by show k.2 + 165 ≤ 1000000; omega⟩ rfl) only [sL_law_1074, sL_law_1075, sL_law_1076, sL_law_1077, sL_law_1078, sL_law_1079, sL_law_1080, e1, g1, s0, s47, mI_msI, mI_msP, mI_msA, mP_msI, mP_msP, mP_msA, mS_msI, mS_msP, mS_msA, mN_msI, mN_msP, mN_msA, Option.toList_some, Option.toList_none, List.cons_append, List.nil_append, ai_rf_s, ai_rf_n, ai_kl_i, ai_kl_r, ai_kl_n, b2_0, b2_1, if_true, if_false, and_true, true_and, or_false, false_or, or_true, true_or, and_false, false_and, not_true_eq_false, not_false_eq_true, seval, jN, jI_add, jI_sub, jI_mul, jI_neg, jj_lt, jj_le, jj_eq, jj_div, jj_rem, jl_cl, b2_j0, b2_j1, show (0 : Int32) = jI 0 from rfl, show (1 : Int32) = jI 1 from rfl, show (2 : Int32) = jI 2 from rfl, show (3 : Int32) = jI 3 from rfl, show (4 : Int32) = jI 4 from rfl, show (5 : Int32) = jI 5 from rfl, show (6 : Int32) = jI 6 from rfl, show (7 : Int32) = jI 7 from rfl, show (63 : Int32) = jI 63 from rfl, Decidable.not_not, eq_self, lg_self]
  refine Cl.imp (Cl_sc (p_laws hB hA hM (lo (i + 1)) (hi (i + 1)))) (fun r w1 hh => ?_)
  obtain ⟨⟨z, rfl, hM1⟩, sc⟩ := hh
  have sr := sr.sc sc
  have s0 := sr.2.2.2.1
  have s47 := sr.2.2.2.2.1
  have e1 := sr.v (j := (i : Int) + 1) (n := i + 1) (by omega)
  have g1 := sr.g L0 (j := (i : Int) + 1) (by omega) (by omega)
  simp (disch := first | omega | assumption | exact gC_L ⟨by omega, by omega⟩ rfl | exact gC_L ⟨by show k.1 + 3 ≤ 10000; omega, by show k.2 + 165 ≤ 1000000; omega⟩ rfl) only [sL_law_1083, sL_law_1084, sL_law_1085, sL_law_1086, sL_law_1087, sL_law_1088, sL_law_1089, e1, g1, s0, s47, mI_msI, mI_msP, mI_msA, mP_msI, mP_msP, mP_msA, mS_msI, mS_msP, mS_msA, mN_msI, mN_msP, mN_msA, Option.toList_some, Option.toList_none, List.cons_append, List.nil_append, ai_rf_s, ai_rf_n, ai_kl_i, ai_kl_r, ai_kl_n, b2_0, b2_1, if_true, if_false, and_true, true_and, or_false, false_or, or_true, true_or, and_false, false_and, not_true_eq_false, not_false_eq_true, seval, jN, jI_add, jI_sub, jI_mul, jI_neg, jj_lt, jj_le, jj_eq, jj_div, jj_rem, jl_cl, b2_j0, b2_j1, show (0 : Int32) = jI 0 from rfl, show (1 : Int32) = jI 1 from rfl, show (2 : Int32) = jI 2 from rfl, show (3 : Int32) = jI 3 from rfl, show (4 : Int32) = jI 4 from rfl, show (5 : Int32) = jI 5 from rfl, show (6 : Int32) = jI 6 from rfl, show (7 : Int32) = jI 7 from rfl, show (63 : Int32) = jI 63 from rfl, Decidable.not_not, eq_self, lg_self]
  refine Cl.imp (Cl_sc hM1) (fun r2 w2 hh2 => ?_)
  obtain ⟨⟨rfl, L2⟩, sc2⟩ := hh2
  have h5 := nx w2 (sr.sc sc2) L2
  rw [Int.natCast_add] at h5
  simp (disch := first | omega | assumption | exact gC_L ⟨by omega, by omega⟩ rfl | exact gC_L ⟨by show k.1 + 3 ≤ 10000; omega, by show k.2 + 165 ≤ 1000000; omega⟩ rfl) only [sL_law_1092, sL_law_1095, sL_law_1096, sL_law_1488, sL_law_1491, mI_msI, mI_msP, mI_msA, mP_msI, mP_msP, mP_msA, mS_msI, mS_msP, mS_msA, mN_msI, mN_msP, mN_msA, Option.toList_some, Option.toList_none, List.cons_append, List.nil_append, ai_rf_s, ai_rf_n, ai_kl_i, ai_kl_r, ai_kl_n, b2_0, b2_1, if_true, if_false, and_true, true_and, or_false, false_or, or_true, true_or, and_false, false_and, not_true_eq_false, not_false_eq_true, seval, jN, jI_add, jI_sub, jI_mul, jI_neg, jj_lt, jj_le, jj_eq, jj_div, jj_rem, jl_cl, b2_j0, b2_j1, show (0 : Int32) = jI 0 from rfl, show (1 : Int32) = jI 1 from rfl, show (2 : Int32) = jI 2 from rfl, show (3 : Int32) = jI 3 from rfl, show (4 : Int32) = jI 4 from rfl, show (5 : Int32) = jI 5 from rfl, show (6 : Int32) = jI 6 from rfl, show (7 : Int32) = jI 7 from rfl, show (63 : Int32) = jI 63 from rfl, Decidable.not_not, eq_self, lg_self]
  exact h5
set_option maxHeartbeats 4000000 in
theorem lc_28 {D L i : Nat} {X : Nat → Int} {w : ai_H} {k : Nat × Nat} {Q : Option Value → ai_H → Prop} (sr : SRc w L X) (hL : LI w) (iL : i + 7 ≤ L) (L0 : L ≤ 3584) (hk : k.1 ≤ 9000 ∧ k.2 ≤ 900000) (lo : ∀ j, -2147483648 ≤ X j) (hi : ∀ j, X j < 2147483648) (nx : ∀ w', SRc w' L X → LI w' → Ex (D + 61) mL_law 18 [some (.ref 1000300), some (.ref 0), some (.ref 47), some (.int (jI ((i + 7 : Nat) : Int)))] [] k w' Q) : Ex (D + 61) mL_law 1097 [some (.ref 1000300), some (.ref 0), some (.ref 47), some (.int (jI i))] [] k w Q := by
  have s0 := sr.2.2.2.1
  have s47 := sr.2.2.2.2.1
  have e1 := sr.v (j := (i : Int) + 1) (n := i + 1) (by omega)
  have g1 := sr.g L0 (j := (i : Int) + 1) (by omega) (by omega)
  have e2 := sr.v (j := (i : Int) + 2) (n := i + 2) (by omega)
  have g2 := sr.g L0 (j := (i : Int) + 2) (by omega) (by omega)
  obtain ⟨g, h, im, mv, S, tn, tp, nt, T, hB, hA, hM⟩ := hL
  simp (disch := first | omega | assumption | exact gC_L ⟨by omega, by omega⟩ rfl | exact gC_L ⟨by show k.1 + 3 ≤ 10000; omega, by show k.2 + 165 ≤ 1000000; omega⟩ rfl) only [sL_law_1097, sL_law_1098, sL_law_1099, sL_law_1100, sL_law_1101, sL_law_1102, sL_law_1103, sL_law_1104, sL_law_1105, sL_law_1106, sL_law_1107, sL_law_1108, e1, g1, e2, g2, s0, s47, mI_msI, mI_msP, mI_msA, mP_msI, mP_msP, mP_msA, mS_msI, mS_msP, mS_msA, mN_msI, mN_msP, mN_msA, Option.toList_some, Option.toList_none, List.cons_append, List.nil_append, ai_rf_s, ai_rf_n, ai_kl_i, ai_kl_r, ai_kl_n, b2_0, b2_1, if_true, if_false, and_true, true_and, or_false, false_or, or_true, true_or, and_false, false_and, not_true_eq_false, not_false_eq_true, seval, jN, jI_add, jI_sub, jI_mul, jI_neg, jj_lt, jj_le, jj_eq, jj_div, jj_rem, jl_cl, b2_j0, b2_j1, show (0 : Int32) = jI 0 from rfl, show (1 : Int32) = jI 1 from rfl, show (2 : Int32) = jI 2 from rfl, show (3 : Int32) = jI 3 from rfl, show (4 : Int32) = jI 4 from rfl, show (5 : Int32) = jI 5 from rfl, show (6 : Int32) = jI 6 from rfl, show (7 : Int32) = jI 7 from rfl, show (63 : Int32) = jI 63 from rfl, Decidable.not_not, eq_self, lg_self]
  refine Cl.imp (Cl_sc (p_film hB hA hM (lo (i + 1)) (hi (i + 1)) (lo (i + 2)) (hi (i + 2)))) (fun r w1 hh => ?_)
  obtain ⟨⟨z, rfl, hM1⟩, sc⟩ := hh
  have sr := sr.sc sc
  have s0 := sr.2.2.2.1
  have s47 := sr.2.2.2.2.1
  have e1 := sr.v (j := (i : Int) + 1) (n := i + 1) (by omega)
  have g1 := sr.g L0 (j := (i : Int) + 1) (by omega) (by omega)
  have e2 := sr.v (j := (i : Int) + 2) (n := i + 2) (by omega)
  have g2 := sr.g L0 (j := (i : Int) + 2) (by omega) (by omega)
  simp (disch := first | omega | assumption | exact gC_L ⟨by omega, by omega⟩ rfl | exact gC_L ⟨by show k.1 + 3 ≤ 10000; omega, by show k.2 + 165 ≤ 1000000; omega⟩ rfl) only [sL_law_1111, sL_law_1112, sL_law_1113, sL_law_1114, sL_law_1115, sL_law_1116, sL_law_1117, sL_law_1118, sL_law_1119, sL_law_1120, sL_law_1121, sL_law_1122, e1, g1, e2, g2, s0, s47, mI_msI, mI_msP, mI_msA, mP_msI, mP_msP, mP_msA, mS_msI, mS_msP, mS_msA, mN_msI, mN_msP, mN_msA, Option.toList_some, Option.toList_none, List.cons_append, List.nil_append, ai_rf_s, ai_rf_n, ai_kl_i, ai_kl_r, ai_kl_n, b2_0, b2_1, if_true, if_false, and_true, true_and, or_false, false_or, or_true, true_or, and_false, false_and, not_true_eq_false, not_false_eq_true, seval, jN, jI_add, jI_sub, jI_mul, jI_neg, jj_lt, jj_le, jj_eq, jj_div, jj_rem, jl_cl, b2_j0, b2_j1, show (0 : Int32) = jI 0 from rfl, show (1 : Int32) = jI 1 from rfl, show (2 : Int32) = jI 2 from rfl, show (3 : Int32) = jI 3 from rfl, show (4 : Int32) = jI 4 from rfl, show (5 : Int32) = jI 5 from rfl, show (6 : Int32) = jI 6 from rfl, show (7 : Int32) = jI 7 from rfl, show (63 : Int32) = jI 63 from rfl, Decidable.not_not, eq_self, lg_self]
  refine Cl.imp (Cl_sc hM1) (fun r2 w2 hh2 => ?_)
  obtain ⟨⟨rfl, L2⟩, sc2⟩ := hh2
  have h5 := nx w2 (sr.sc sc2) L2
  rw [Int.natCast_add] at h5
  simp (disch := first | omega | assumption | exact gC_L ⟨by omega, by omega⟩ rfl | exact gC_L ⟨by show k.1 + 3 ≤ 10000; omega, by show k.2 + 165 ≤ 1000000; omega⟩ rfl) only [sL_law_1125, sL_law_1128, sL_law_1129, sL_law_1488, sL_law_1491, mI_msI, mI_msP, mI_msA, mP_msI, mP_msP, mP_msA, mS_msI, mS_msP, mS_msA, mN_msI, mN_msP, mN_msA, Option.toList_some, Option.toList_none, List.cons_append, List.nil_append, ai_rf_s, ai_rf_n, ai_kl_i, ai_kl_r, ai_kl_n, b2_0, b2_1, if_true, if_false, and_true, true_and, or_false, false_or, or_true, true_or, and_false, false_and, not_true_eq_false, not_false_eq_true, seval, jN, jI_add, jI_sub, jI_mul, jI_neg, jj_lt, jj_le, jj_eq, jj_div, jj_rem, jl_cl, b2_j0, b2_j1, show (0 : Int32) = jI 0 from rfl, show (1 : Int32) = jI 1 from rfl, show (2 : Int32) = jI 2 from rfl, show (3 : Int32) = jI 3 from rfl, show (4 : Int32) = jI 4 from rfl, show (5 : Int32) = jI 5 from rfl, show (6 : Int32) = jI 6 from rfl, show (7 : Int32) = jI 7 from rfl, show (63 : Int32) = jI 63 from rfl, Decidable.not_not, eq_self, lg_self]
  exact h5
set_option maxHeartbeats 4000000 in
theorem lc_29 {D L i : Nat} {X : Nat → Int} {w : ai_H} {k : Nat × Nat} {Q : Option Value → ai_H → Prop} (sr : SRc w L X) (hL : LI w) (iL : i + 7 ≤ L) (L0 : L ≤ 3584) (hk : k.1 ≤ 9000 ∧ k.2 ≤ 900000) (lo : ∀ j, -2147483648 ≤ X j) (hi : ∀ j, X j < 2147483648) (nx : ∀ w', SRc w' L X → LI w' → Ex (D + 61) mL_law 18 [some (.ref 1000300), some (.ref 0), some (.ref 47), some (.int (jI ((i + 7 : Nat) : Int)))] [] k w' Q) : Ex (D + 61) mL_law 1130 [some (.ref 1000300), some (.ref 0), some (.ref 47), some (.int (jI i))] [] k w Q := by
  have s0 := sr.2.2.2.1
  have s47 := sr.2.2.2.2.1
  have e1 := sr.v (j := (i : Int) + 1) (n := i + 1) (by omega)
  have g1 := sr.g L0 (j := (i : Int) + 1) (by omega) (by omega)
  have e2 := sr.v (j := (i : Int) + 2) (n := i + 2) (by omega)
  have g2 := sr.g L0 (j := (i : Int) + 2) (by omega) (by omega)
  have e3 := sr.v (j := (i : Int) + 3) (n := i + 3) (by omega)
  have g3 := sr.g L0 (j := (i : Int) + 3) (by omega) (by omega)
  obtain ⟨g, h, im, mv, S, tn, tp, nt, T, hB, hA, hM⟩ := hL
  simp (disch := first | omega | assumption | exact gC_L ⟨by omega, by omega⟩ rfl | exact gC_L ⟨by show k.1 + 3 ≤ 10000; omega, by show k.2 + 165 ≤ 1000000; omega⟩ rfl) only [sL_law_1130, sL_law_1131, sL_law_1132, sL_law_1133, sL_law_1134, sL_law_1135, sL_law_1136, sL_law_1137, sL_law_1138, sL_law_1139, sL_law_1140, sL_law_1141, sL_law_1142, sL_law_1143, sL_law_1144, sL_law_1145, sL_law_1146, e1, g1, e2, g2, e3, g3, s0, s47, mI_msI, mI_msP, mI_msA, mP_msI, mP_msP, mP_msA, mS_msI, mS_msP, mS_msA, mN_msI, mN_msP, mN_msA, Option.toList_some, Option.toList_none, List.cons_append, List.nil_append, ai_rf_s, ai_rf_n, ai_kl_i, ai_kl_r, ai_kl_n, b2_0, b2_1, if_true, if_false, and_true, true_and, or_false, false_or, or_true, true_or, and_false, false_and, not_true_eq_false, not_false_eq_true, seval, jN, jI_add, jI_sub, jI_mul, jI_neg, jj_lt, jj_le, jj_eq, jj_div, jj_rem, jl_cl, b2_j0, b2_j1, show (0 : Int32) = jI 0 from rfl, show (1 : Int32) = jI 1 from rfl, show (2 : Int32) = jI 2 from rfl, show (3 : Int32) = jI 3 from rfl, show (4 : Int32) = jI 4 from rfl, show (5 : Int32) = jI 5 from rfl, show (6 : Int32) = jI 6 from rfl, show (7 : Int32) = jI 7 from rfl, show (63 : Int32) = jI 63 from rfl, Decidable.not_not, eq_self, lg_self]
  refine Cl.imp (Cl_sc (p_drawn hB hA hM (lo (i + 1)) (hi (i + 1)) (lo (i + 2)) (hi (i + 2)) (lo (i + 3)) (hi (i + 3)))) (fun r w1 hh => ?_)
  obtain ⟨⟨z, rfl, hM1⟩, sc⟩ := hh
  have sr := sr.sc sc
  have s0 := sr.2.2.2.1
  have s47 := sr.2.2.2.2.1
  have e1 := sr.v (j := (i : Int) + 1) (n := i + 1) (by omega)
  have g1 := sr.g L0 (j := (i : Int) + 1) (by omega) (by omega)
  have e2 := sr.v (j := (i : Int) + 2) (n := i + 2) (by omega)
  have g2 := sr.g L0 (j := (i : Int) + 2) (by omega) (by omega)
  have e3 := sr.v (j := (i : Int) + 3) (n := i + 3) (by omega)
  have g3 := sr.g L0 (j := (i : Int) + 3) (by omega) (by omega)
  simp (disch := first | omega | assumption | exact gC_L ⟨by omega, by omega⟩ rfl | exact gC_L ⟨by show k.1 + 3 ≤ 10000; omega, by show k.2 + 165 ≤ 1000000; omega⟩ rfl) only [sL_law_1149, sL_law_1150, sL_law_1151, sL_law_1152, sL_law_1153, sL_law_1154, sL_law_1155, sL_law_1156, sL_law_1157, sL_law_1158, sL_law_1159, sL_law_1160, sL_law_1161, sL_law_1162, sL_law_1163, sL_law_1164, sL_law_1165, e1, g1, e2, g2, e3, g3, s0, s47, mI_msI, mI_msP, mI_msA, mP_msI, mP_msP, mP_msA, mS_msI, mS_msP, mS_msA, mN_msI, mN_msP, mN_msA, Option.toList_some, Option.toList_none, List.cons_append, List.nil_append, ai_rf_s, ai_rf_n, ai_kl_i, ai_kl_r, ai_kl_n, b2_0, b2_1, if_true, if_false, and_true, true_and, or_false, false_or, or_true, true_or, and_false, false_and, not_true_eq_false, not_false_eq_true, seval, jN, jI_add, jI_sub, jI_mul, jI_neg, jj_lt, jj_le, jj_eq, jj_div, jj_rem, jl_cl, b2_j0, b2_j1, show (0 : Int32) = jI 0 from rfl, show (1 : Int32) = jI 1 from rfl, show (2 : Int32) = jI 2 from rfl, show (3 : Int32) = jI 3 from rfl, show (4 : Int32) = jI 4 from rfl, show (5 : Int32) = jI 5 from rfl, show (6 : Int32) = jI 6 from rfl, show (7 : Int32) = jI 7 from rfl, show (63 : Int32) = jI 63 from rfl, Decidable.not_not, eq_self, lg_self]
  refine Cl.imp (Cl_sc hM1) (fun r2 w2 hh2 => ?_)
  obtain ⟨⟨rfl, L2⟩, sc2⟩ := hh2
  have h5 := nx w2 (sr.sc sc2) L2
  rw [Int.natCast_add] at h5
  simp (disch := first | omega | assumption | exact gC_L ⟨by omega, by omega⟩ rfl | exact gC_L ⟨by show k.1 + 3 ≤ 10000; omega, by show k.2 + 165 ≤ 1000000; omega⟩ rfl) only [sL_law_1168, sL_law_1171, sL_law_1172, sL_law_1488, sL_law_1491, mI_msI, mI_msP, mI_msA, mP_msI, mP_msP, mP_msA, mS_msI, mS_msP, mS_msA, mN_msI, mN_msP, mN_msA, Option.toList_some, Option.toList_none, List.cons_append, List.nil_append, ai_rf_s, ai_rf_n, ai_kl_i, ai_kl_r, ai_kl_n, b2_0, b2_1, if_true, if_false, and_true, true_and, or_false, false_or, or_true, true_or, and_false, false_and, not_true_eq_false, not_false_eq_true, seval, jN, jI_add, jI_sub, jI_mul, jI_neg, jj_lt, jj_le, jj_eq, jj_div, jj_rem, jl_cl, b2_j0, b2_j1, show (0 : Int32) = jI 0 from rfl, show (1 : Int32) = jI 1 from rfl, show (2 : Int32) = jI 2 from rfl, show (3 : Int32) = jI 3 from rfl, show (4 : Int32) = jI 4 from rfl, show (5 : Int32) = jI 5 from rfl, show (6 : Int32) = jI 6 from rfl, show (7 : Int32) = jI 7 from rfl, show (63 : Int32) = jI 63 from rfl, Decidable.not_not, eq_self, lg_self]
  exact h5
set_option maxHeartbeats 4000000 in
theorem lc_30 {D L i : Nat} {X : Nat → Int} {w : ai_H} {k : Nat × Nat} {Q : Option Value → ai_H → Prop} (sr : SRc w L X) (hL : LI w) (iL : i + 7 ≤ L) (L0 : L ≤ 3584) (hk : k.1 ≤ 9000 ∧ k.2 ≤ 900000) (lo : ∀ j, -2147483648 ≤ X j) (hi : ∀ j, X j < 2147483648) (nx : ∀ w', SRc w' L X → LI w' → Ex (D + 61) mL_law 18 [some (.ref 1000300), some (.ref 0), some (.ref 47), some (.int (jI ((i + 7 : Nat) : Int)))] [] k w' Q) : Ex (D + 61) mL_law 1173 [some (.ref 1000300), some (.ref 0), some (.ref 47), some (.int (jI i))] [] k w Q := by
  have s0 := sr.2.2.2.1
  have s47 := sr.2.2.2.2.1
  have e1 := sr.v (j := (i : Int) + 1) (n := i + 1) (by omega)
  have g1 := sr.g L0 (j := (i : Int) + 1) (by omega) (by omega)
  have e2 := sr.v (j := (i : Int) + 2) (n := i + 2) (by omega)
  have g2 := sr.g L0 (j := (i : Int) + 2) (by omega) (by omega)
  have e3 := sr.v (j := (i : Int) + 3) (n := i + 3) (by omega)
  have g3 := sr.g L0 (j := (i : Int) + 3) (by omega) (by omega)
  have e4 := sr.v (j := (i : Int) + 4) (n := i + 4) (by omega)
  have g4 := sr.g L0 (j := (i : Int) + 4) (by omega) (by omega)
  obtain ⟨g, h, im, mv, S, tn, tp, nt, T, hB, hA, hM⟩ := hL
  simp (disch := first | omega | assumption | exact gC_L ⟨by omega, by omega⟩ rfl | exact gC_L ⟨by show k.1 + 3 ≤ 10000; omega, by show k.2 + 165 ≤ 1000000; omega⟩ rfl) only [sL_law_1173, sL_law_1174, sL_law_1175, sL_law_1176, sL_law_1177, sL_law_1178, sL_law_1179, sL_law_1180, sL_law_1181, sL_law_1182, sL_law_1183, sL_law_1184, sL_law_1185, sL_law_1186, sL_law_1187, sL_law_1188, sL_law_1189, sL_law_1190, sL_law_1191, sL_law_1192, sL_law_1193, sL_law_1194, e1, g1, e2, g2, e3, g3, e4, g4, s0, s47, mI_msI, mI_msP, mI_msA, mP_msI, mP_msP, mP_msA, mS_msI, mS_msP, mS_msA, mN_msI, mN_msP, mN_msA, Option.toList_some, Option.toList_none, List.cons_append, List.nil_append, ai_rf_s, ai_rf_n, ai_kl_i, ai_kl_r, ai_kl_n, b2_0, b2_1, if_true, if_false, and_true, true_and, or_false, false_or, or_true, true_or, and_false, false_and, not_true_eq_false, not_false_eq_true, seval, jN, jI_add, jI_sub, jI_mul, jI_neg, jj_lt, jj_le, jj_eq, jj_div, jj_rem, jl_cl, b2_j0, b2_j1, show (0 : Int32) = jI 0 from rfl, show (1 : Int32) = jI 1 from rfl, show (2 : Int32) = jI 2 from rfl, show (3 : Int32) = jI 3 from rfl, show (4 : Int32) = jI 4 from rfl, show (5 : Int32) = jI 5 from rfl, show (6 : Int32) = jI 6 from rfl, show (7 : Int32) = jI 7 from rfl, show (63 : Int32) = jI 63 from rfl, Decidable.not_not, eq_self, lg_self]
  refine Cl.imp (Cl_sc (p_odds hB hA hM (lo (i + 1)) (hi (i + 1)) (lo (i + 2)) (hi (i + 2)) (lo (i + 3)) (hi (i + 3)) (lo (i + 4)) (hi (i + 4)))) (fun r w1 hh => ?_)
  obtain ⟨⟨z, rfl, hM1⟩, sc⟩ := hh
  have sr := sr.sc sc
  have s0 := sr.2.2.2.1
  have s47 := sr.2.2.2.2.1
  have e1 := sr.v (j := (i : Int) + 1) (n := i + 1) (by omega)
  have g1 := sr.g L0 (j := (i : Int) + 1) (by omega) (by omega)
  have e2 := sr.v (j := (i : Int) + 2) (n := i + 2) (by omega)
  have g2 := sr.g L0 (j := (i : Int) + 2) (by omega) (by omega)
  have e3 := sr.v (j := (i : Int) + 3) (n := i + 3) (by omega)
  have g3 := sr.g L0 (j := (i : Int) + 3) (by omega) (by omega)
  have e4 := sr.v (j := (i : Int) + 4) (n := i + 4) (by omega)
  have g4 := sr.g L0 (j := (i : Int) + 4) (by omega) (by omega)
  simp (disch := first | omega | assumption | exact gC_L ⟨by omega, by omega⟩ rfl | exact gC_L ⟨by show k.1 + 3 ≤ 10000; omega, by show k.2 + 165 ≤ 1000000; omega⟩ rfl) only [sL_law_1197, sL_law_1198, sL_law_1199, sL_law_1200, sL_law_1201, sL_law_1202, sL_law_1203, sL_law_1204, sL_law_1205, sL_law_1206, sL_law_1207, sL_law_1208, sL_law_1209, sL_law_1210, sL_law_1211, sL_law_1212, sL_law_1213, sL_law_1214, sL_law_1215, sL_law_1216, sL_law_1217, sL_law_1218, e1, g1, e2, g2, e3, g3, e4, g4, s0, s47, mI_msI, mI_msP, mI_msA, mP_msI, mP_msP, mP_msA, mS_msI, mS_msP, mS_msA, mN_msI, mN_msP, mN_msA, Option.toList_some, Option.toList_none, List.cons_append, List.nil_append, ai_rf_s, ai_rf_n, ai_kl_i, ai_kl_r, ai_kl_n, b2_0, b2_1, if_true, if_false, and_true, true_and, or_false, false_or, or_true, true_or, and_false, false_and, not_true_eq_false, not_false_eq_true, seval, jN, jI_add, jI_sub, jI_mul, jI_neg, jj_lt, jj_le, jj_eq, jj_div, jj_rem, jl_cl, b2_j0, b2_j1, show (0 : Int32) = jI 0 from rfl, show (1 : Int32) = jI 1 from rfl, show (2 : Int32) = jI 2 from rfl, show (3 : Int32) = jI 3 from rfl, show (4 : Int32) = jI 4 from rfl, show (5 : Int32) = jI 5 from rfl, show (6 : Int32) = jI 6 from rfl, show (7 : Int32) = jI 7 from rfl, show (63 : Int32) = jI 63 from rfl, Decidable.not_not, eq_self, lg_self]
  refine Cl.imp (Cl_sc hM1) (fun r2 w2 hh2 => ?_)
  obtain ⟨⟨rfl, L2⟩, sc2⟩ := hh2
  have h5 := nx w2 (sr.sc sc2) L2
  rw [Int.natCast_add] at h5
  simp (disch := first | omega | assumption | exact gC_L ⟨by omega, by omega⟩ rfl | exact gC_L ⟨by show k.1 + 3 ≤ 10000; omega, by show k.2 + 165 ≤ 1000000; omega⟩ rfl) only [sL_law_1221, sL_law_1222, sL_law_1225, sL_law_1226, sL_law_1488, sL_law_1491, mI_msI, mI_msP, mI_msA, mP_msI, mP_msP, mP_msA, mS_msI, mS_msP, mS_msA, mN_msI, mN_msP, mN_msA, Option.toList_some, Option.toList_none, List.cons_append, List.nil_append, ai_rf_s, ai_rf_n, ai_kl_i, ai_kl_r, ai_kl_n, b2_0, b2_1, if_true, if_false, and_true, true_and, or_false, false_or, or_true, true_or, and_false, false_and, not_true_eq_false, not_false_eq_true, seval, jN, jI_add, jI_sub, jI_mul, jI_neg, jj_lt, jj_le, jj_eq, jj_div, jj_rem, jl_cl, b2_j0, b2_j1, show (0 : Int32) = jI 0 from rfl, show (1 : Int32) = jI 1 from rfl, show (2 : Int32) = jI 2 from rfl, show (3 : Int32) = jI 3 from rfl, show (4 : Int32) = jI 4 from rfl, show (5 : Int32) = jI 5 from rfl, show (6 : Int32) = jI 6 from rfl, show (7 : Int32) = jI 7 from rfl, show (63 : Int32) = jI 63 from rfl, Decidable.not_not, eq_self, lg_self]
  exact h5
set_option maxHeartbeats 4000000 in
theorem lc_31 {D L i : Nat} {X : Nat → Int} {w : ai_H} {k : Nat × Nat} {Q : Option Value → ai_H → Prop} (sr : SRc w L X) (hL : LI w) (iL : i + 7 ≤ L) (L0 : L ≤ 3584) (hk : k.1 ≤ 9000 ∧ k.2 ≤ 900000) (lo : ∀ j, -2147483648 ≤ X j) (hi : ∀ j, X j < 2147483648) (nx : ∀ w', SRc w' L X → LI w' → Ex (D + 61) mL_law 18 [some (.ref 1000300), some (.ref 0), some (.ref 47), some (.int (jI ((i + 7 : Nat) : Int)))] [] k w' Q) : Ex (D + 61) mL_law 1227 [some (.ref 1000300), some (.ref 0), some (.ref 47), some (.int (jI i))] [] k w Q := by
  have s0 := sr.2.2.2.1
  have s47 := sr.2.2.2.2.1
  obtain ⟨g, h, im, mv, S, tn, tp, nt, T, hB, hA, hM⟩ := hL
  simp (disch := first | omega | assumption | exact gC_L ⟨by omega, by omega⟩ rfl | exact gC_L ⟨by show k.1 + 3 ≤ 10000; omega, by show k.2 + 165 ≤ 1000000; omega⟩ rfl) only [sL_law_1227, sL_law_1228, s0, s47, mI_msI, mI_msP, mI_msA, mP_msI, mP_msP, mP_msA, mS_msI, mS_msP, mS_msA, mN_msI, mN_msP, mN_msA, Option.toList_some, Option.toList_none, List.cons_append, List.nil_append, ai_rf_s, ai_rf_n, ai_kl_i, ai_kl_r, ai_kl_n, b2_0, b2_1, if_true, if_false, and_true, true_and, or_false, false_or, or_true, true_or, and_false, false_and, not_true_eq_false, not_false_eq_true, seval, jN, jI_add, jI_sub, jI_mul, jI_neg, jj_lt, jj_le, jj_eq, jj_div, jj_rem, jl_cl, b2_j0, b2_j1, show (0 : Int32) = jI 0 from rfl, show (1 : Int32) = jI 1 from rfl, show (2 : Int32) = jI 2 from rfl, show (3 : Int32) = jI 3 from rfl, show (4 : Int32) = jI 4 from rfl, show (5 : Int32) = jI 5 from rfl, show (6 : Int32) = jI 6 from rfl, show (7 : Int32) = jI 7 from rfl, show (63 : Int32) = jI 63 from rfl, Decidable.not_not, eq_self, lg_self]
  refine Cl.imp (Cl_sc (p_image hB hA hM )) (fun r w1 hh => ?_)
  obtain ⟨⟨z, rfl, hM1⟩, sc⟩ := hh
  have sr := sr.sc sc
  have s0 := sr.2.2.2.1
  have s47 := sr.2.2.2.2.1
  simp (disch := first | omega | assumption | exact gC_L ⟨by omega, by omega⟩ rfl | exact gC_L ⟨by show k.1 + 3 ≤ 10000; omega, by show k.2 + 165 ≤ 1000000; omega⟩ rfl) only [sL_law_1231, sL_law_1232, s0, s47, mI_msI, mI_msP, mI_msA, mP_msI, mP_msP, mP_msA, mS_msI, mS_msP, mS_msA, mN_msI, mN_msP, mN_msA, Option.toList_some, Option.toList_none, List.cons_append, List.nil_append, ai_rf_s, ai_rf_n, ai_kl_i, ai_kl_r, ai_kl_n, b2_0, b2_1, if_true, if_false, and_true, true_and, or_false, false_or, or_true, true_or, and_false, false_and, not_true_eq_false, not_false_eq_true, seval, jN, jI_add, jI_sub, jI_mul, jI_neg, jj_lt, jj_le, jj_eq, jj_div, jj_rem, jl_cl, b2_j0, b2_j1, show (0 : Int32) = jI 0 from rfl, show (1 : Int32) = jI 1 from rfl, show (2 : Int32) = jI 2 from rfl, show (3 : Int32) = jI 3 from rfl, show (4 : Int32) = jI 4 from rfl, show (5 : Int32) = jI 5 from rfl, show (6 : Int32) = jI 6 from rfl, show (7 : Int32) = jI 7 from rfl, show (63 : Int32) = jI 63 from rfl, Decidable.not_not, eq_self, lg_self]
  refine Cl.imp (Cl_sc hM1) (fun r2 w2 hh2 => ?_)
  obtain ⟨⟨rfl, L2⟩, sc2⟩ := hh2
  have h5 := nx w2 (sr.sc sc2) L2
  rw [Int.natCast_add] at h5
  simp (disch := first | omega | assumption | exact gC_L ⟨by omega, by omega⟩ rfl | exact gC_L ⟨by show k.1 + 3 ≤ 10000; omega, by show k.2 + 165 ≤ 1000000; omega⟩ rfl) only [sL_law_1235, sL_law_1238, sL_law_1239, sL_law_1488, sL_law_1491, mI_msI, mI_msP, mI_msA, mP_msI, mP_msP, mP_msA, mS_msI, mS_msP, mS_msA, mN_msI, mN_msP, mN_msA, Option.toList_some, Option.toList_none, List.cons_append, List.nil_append, ai_rf_s, ai_rf_n, ai_kl_i, ai_kl_r, ai_kl_n, b2_0, b2_1, if_true, if_false, and_true, true_and, or_false, false_or, or_true, true_or, and_false, false_and, not_true_eq_false, not_false_eq_true, seval, jN, jI_add, jI_sub, jI_mul, jI_neg, jj_lt, jj_le, jj_eq, jj_div, jj_rem, jl_cl, b2_j0, b2_j1, show (0 : Int32) = jI 0 from rfl, show (1 : Int32) = jI 1 from rfl, show (2 : Int32) = jI 2 from rfl, show (3 : Int32) = jI 3 from rfl, show (4 : Int32) = jI 4 from rfl, show (5 : Int32) = jI 5 from rfl, show (6 : Int32) = jI 6 from rfl, show (7 : Int32) = jI 7 from rfl, show (63 : Int32) = jI 63 from rfl, Decidable.not_not, eq_self, lg_self]
  exact h5
set_option maxHeartbeats 4000000 in
theorem lc_32 {D L i : Nat} {X : Nat → Int} {w : ai_H} {k : Nat × Nat} {Q : Option Value → ai_H → Prop} (sr : SRc w L X) (hL : LI w) (iL : i + 7 ≤ L) (L0 : L ≤ 3584) (hk : k.1 ≤ 9000 ∧ k.2 ≤ 900000) (lo : ∀ j, -2147483648 ≤ X j) (hi : ∀ j, X j < 2147483648) (nx : ∀ w', SRc w' L X → LI w' → Ex (D + 61) mL_law 18 [some (.ref 1000300), some (.ref 0), some (.ref 47), some (.int (jI ((i + 7 : Nat) : Int)))] [] k w' Q) : Ex (D + 61) mL_law 1240 [some (.ref 1000300), some (.ref 0), some (.ref 47), some (.int (jI i))] [] k w Q := by
  have s0 := sr.2.2.2.1
  have s47 := sr.2.2.2.2.1
  obtain ⟨g, h, im, mv, S, tn, tp, nt, T, hB, hA, hM⟩ := hL
  simp (disch := first | omega | assumption | exact gC_L ⟨by omega, by omega⟩ rfl | exact gC_L ⟨by show k.1 + 3 ≤ 10000; omega, by show k.2 + 165 ≤ 1000000; omega⟩ rfl) only [sL_law_1240, sL_law_1241, s0, s47, mI_msI, mI_msP, mI_msA, mP_msI, mP_msP, mP_msA, mS_msI, mS_msP, mS_msA, mN_msI, mN_msP, mN_msA, Option.toList_some, Option.toList_none, List.cons_append, List.nil_append, ai_rf_s, ai_rf_n, ai_kl_i, ai_kl_r, ai_kl_n, b2_0, b2_1, if_true, if_false, and_true, true_and, or_false, false_or, or_true, true_or, and_false, false_and, not_true_eq_false, not_false_eq_true, seval, jN, jI_add, jI_sub, jI_mul, jI_neg, jj_lt, jj_le, jj_eq, jj_div, jj_rem, jl_cl, b2_j0, b2_j1, show (0 : Int32) = jI 0 from rfl, show (1 : Int32) = jI 1 from rfl, show (2 : Int32) = jI 2 from rfl, show (3 : Int32) = jI 3 from rfl, show (4 : Int32) = jI 4 from rfl, show (5 : Int32) = jI 5 from rfl, show (6 : Int32) = jI 6 from rfl, show (7 : Int32) = jI 7 from rfl, show (63 : Int32) = jI 63 from rfl, Decidable.not_not, eq_self, lg_self]
  refine Cl.imp (Cl_sc (p_back hB hA hM )) (fun r w1 hh => ?_)
  obtain ⟨⟨z, rfl, hM1⟩, sc⟩ := hh
  have sr := sr.sc sc
  have s0 := sr.2.2.2.1
  have s47 := sr.2.2.2.2.1
  simp (disch := first | omega | assumption | exact gC_L ⟨by omega, by omega⟩ rfl | exact gC_L ⟨by show k.1 + 3 ≤ 10000; omega, by show k.2 + 165 ≤ 1000000; omega⟩ rfl) only [sL_law_1244, sL_law_1245, s0, s47, mI_msI, mI_msP, mI_msA, mP_msI, mP_msP, mP_msA, mS_msI, mS_msP, mS_msA, mN_msI, mN_msP, mN_msA, Option.toList_some, Option.toList_none, List.cons_append, List.nil_append, ai_rf_s, ai_rf_n, ai_kl_i, ai_kl_r, ai_kl_n, b2_0, b2_1, if_true, if_false, and_true, true_and, or_false, false_or, or_true, true_or, and_false, false_and, not_true_eq_false, not_false_eq_true, seval, jN, jI_add, jI_sub, jI_mul, jI_neg, jj_lt, jj_le, jj_eq, jj_div, jj_rem, jl_cl, b2_j0, b2_j1, show (0 : Int32) = jI 0 from rfl, show (1 : Int32) = jI 1 from rfl, show (2 : Int32) = jI 2 from rfl, show (3 : Int32) = jI 3 from rfl, show (4 : Int32) = jI 4 from rfl, show (5 : Int32) = jI 5 from rfl, show (6 : Int32) = jI 6 from rfl, show (7 : Int32) = jI 7 from rfl, show (63 : Int32) = jI 63 from rfl, Decidable.not_not, eq_self, lg_self]
  refine Cl.imp (Cl_sc hM1) (fun r2 w2 hh2 => ?_)
  obtain ⟨⟨rfl, L2⟩, sc2⟩ := hh2
  have h5 := nx w2 (sr.sc sc2) L2
  rw [Int.natCast_add] at h5
  simp (disch := first | omega | assumption | exact gC_L ⟨by omega, by omega⟩ rfl | exact gC_L ⟨by show k.1 + 3 ≤ 10000; omega, by show k.2 + 165 ≤ 1000000; omega⟩ rfl) only [sL_law_1248, sL_law_1251, sL_law_1252, sL_law_1488, sL_law_1491, mI_msI, mI_msP, mI_msA, mP_msI, mP_msP, mP_msA, mS_msI, mS_msP, mS_msA, mN_msI, mN_msP, mN_msA, Option.toList_some, Option.toList_none, List.cons_append, List.nil_append, ai_rf_s, ai_rf_n, ai_kl_i, ai_kl_r, ai_kl_n, b2_0, b2_1, if_true, if_false, and_true, true_and, or_false, false_or, or_true, true_or, and_false, false_and, not_true_eq_false, not_false_eq_true, seval, jN, jI_add, jI_sub, jI_mul, jI_neg, jj_lt, jj_le, jj_eq, jj_div, jj_rem, jl_cl, b2_j0, b2_j1, show (0 : Int32) = jI 0 from rfl, show (1 : Int32) = jI 1 from rfl, show (2 : Int32) = jI 2 from rfl, show (3 : Int32) = jI 3 from rfl, show (4 : Int32) = jI 4 from rfl, show (5 : Int32) = jI 5 from rfl, show (6 : Int32) = jI 6 from rfl, show (7 : Int32) = jI 7 from rfl, show (63 : Int32) = jI 63 from rfl, Decidable.not_not, eq_self, lg_self]
  exact h5
set_option maxHeartbeats 4000000 in
theorem lc_33 {D L i : Nat} {X : Nat → Int} {w : ai_H} {k : Nat × Nat} {Q : Option Value → ai_H → Prop} (sr : SRc w L X) (hL : LI w) (iL : i + 7 ≤ L) (L0 : L ≤ 3584) (hk : k.1 ≤ 9000 ∧ k.2 ≤ 900000) (lo : ∀ j, -2147483648 ≤ X j) (hi : ∀ j, X j < 2147483648) (nx : ∀ w', SRc w' L X → LI w' → Ex (D + 61) mL_law 18 [some (.ref 1000300), some (.ref 0), some (.ref 47), some (.int (jI ((i + 7 : Nat) : Int)))] [] k w' Q) : Ex (D + 61) mL_law 1253 [some (.ref 1000300), some (.ref 0), some (.ref 47), some (.int (jI i))] [] k w Q := by
  have s0 := sr.2.2.2.1
  have s47 := sr.2.2.2.2.1
  have e1 := sr.v (j := (i : Int) + 1) (n := i + 1) (by omega)
  have g1 := sr.g L0 (j := (i : Int) + 1) (by omega) (by omega)
  have e2 := sr.v (j := (i : Int) + 2) (n := i + 2) (by omega)
  have g2 := sr.g L0 (j := (i : Int) + 2) (by omega) (by omega)
  have e3 := sr.v (j := (i : Int) + 3) (n := i + 3) (by omega)
  have g3 := sr.g L0 (j := (i : Int) + 3) (by omega) (by omega)
  obtain ⟨g, h, im, mv, S, tn, tp, nt, T, hB, hA, hM⟩ := hL
  simp (disch := first | omega | assumption | exact gC_L ⟨by omega, by omega⟩ rfl | exact gC_L ⟨by show k.1 + 3 ≤ 10000; omega, by show k.2 + 165 ≤ 1000000; omega⟩ rfl) only [sL_law_1253, sL_law_1254, sL_law_1255, sL_law_1256, sL_law_1257, sL_law_1258, sL_law_1259, sL_law_1260, sL_law_1261, sL_law_1262, sL_law_1263, sL_law_1264, sL_law_1265, sL_law_1266, sL_law_1267, sL_law_1268, sL_law_1269, e1, g1, e2, g2, e3, g3, s0, s47, mI_msI, mI_msP, mI_msA, mP_msI, mP_msP, mP_msA, mS_msI, mS_msP, mS_msA, mN_msI, mN_msP, mN_msA, Option.toList_some, Option.toList_none, List.cons_append, List.nil_append, ai_rf_s, ai_rf_n, ai_kl_i, ai_kl_r, ai_kl_n, b2_0, b2_1, if_true, if_false, and_true, true_and, or_false, false_or, or_true, true_or, and_false, false_and, not_true_eq_false, not_false_eq_true, seval, jN, jI_add, jI_sub, jI_mul, jI_neg, jj_lt, jj_le, jj_eq, jj_div, jj_rem, jl_cl, b2_j0, b2_j1, show (0 : Int32) = jI 0 from rfl, show (1 : Int32) = jI 1 from rfl, show (2 : Int32) = jI 2 from rfl, show (3 : Int32) = jI 3 from rfl, show (4 : Int32) = jI 4 from rfl, show (5 : Int32) = jI 5 from rfl, show (6 : Int32) = jI 6 from rfl, show (7 : Int32) = jI 7 from rfl, show (63 : Int32) = jI 63 from rfl, Decidable.not_not, eq_self, lg_self]
  refine Cl.imp (Cl_sc (p_sheet hB hA hM (lo (i + 1)) (hi (i + 1)) (lo (i + 2)) (hi (i + 2)) (lo (i + 3)) (hi (i + 3)))) (fun r w1 hh => ?_)
  obtain ⟨⟨z, rfl, hM1⟩, sc⟩ := hh
  have sr := sr.sc sc
  have s0 := sr.2.2.2.1
  have s47 := sr.2.2.2.2.1
  have e1 := sr.v (j := (i : Int) + 1) (n := i + 1) (by omega)
  have g1 := sr.g L0 (j := (i : Int) + 1) (by omega) (by omega)
  have e2 := sr.v (j := (i : Int) + 2) (n := i + 2) (by omega)
  have g2 := sr.g L0 (j := (i : Int) + 2) (by omega) (by omega)
  have e3 := sr.v (j := (i : Int) + 3) (n := i + 3) (by omega)
  have g3 := sr.g L0 (j := (i : Int) + 3) (by omega) (by omega)
  simp (disch := first | omega | assumption | exact gC_L ⟨by omega, by omega⟩ rfl | exact gC_L ⟨by show k.1 + 3 ≤ 10000; omega, by show k.2 + 165 ≤ 1000000; omega⟩ rfl) only [sL_law_1272, sL_law_1273, sL_law_1274, sL_law_1275, sL_law_1276, sL_law_1277, sL_law_1278, sL_law_1279, sL_law_1280, sL_law_1281, sL_law_1282, sL_law_1283, sL_law_1284, sL_law_1285, sL_law_1286, sL_law_1287, sL_law_1288, e1, g1, e2, g2, e3, g3, s0, s47, mI_msI, mI_msP, mI_msA, mP_msI, mP_msP, mP_msA, mS_msI, mS_msP, mS_msA, mN_msI, mN_msP, mN_msA, Option.toList_some, Option.toList_none, List.cons_append, List.nil_append, ai_rf_s, ai_rf_n, ai_kl_i, ai_kl_r, ai_kl_n, b2_0, b2_1, if_true, if_false, and_true, true_and, or_false, false_or, or_true, true_or, and_false, false_and, not_true_eq_false, not_false_eq_true, seval, jN, jI_add, jI_sub, jI_mul, jI_neg, jj_lt, jj_le, jj_eq, jj_div, jj_rem, jl_cl, b2_j0, b2_j1, show (0 : Int32) = jI 0 from rfl, show (1 : Int32) = jI 1 from rfl, show (2 : Int32) = jI 2 from rfl, show (3 : Int32) = jI 3 from rfl, show (4 : Int32) = jI 4 from rfl, show (5 : Int32) = jI 5 from rfl, show (6 : Int32) = jI 6 from rfl, show (7 : Int32) = jI 7 from rfl, show (63 : Int32) = jI 63 from rfl, Decidable.not_not, eq_self, lg_self]
  refine Cl.imp (Cl_sc hM1) (fun r2 w2 hh2 => ?_)
  obtain ⟨⟨rfl, L2⟩, sc2⟩ := hh2
  have h5 := nx w2 (sr.sc sc2) L2
  rw [Int.natCast_add] at h5
  simp (disch := first | omega | assumption | exact gC_L ⟨by omega, by omega⟩ rfl | exact gC_L ⟨by show k.1 + 3 ≤ 10000; omega, by show k.2 + 165 ≤ 1000000; omega⟩ rfl) only [sL_law_1291, sL_law_1294, sL_law_1295, sL_law_1488, sL_law_1491, mI_msI, mI_msP, mI_msA, mP_msI, mP_msP, mP_msA, mS_msI, mS_msP, mS_msA, mN_msI, mN_msP, mN_msA, Option.toList_some, Option.toList_none, List.cons_append, List.nil_append, ai_rf_s, ai_rf_n, ai_kl_i, ai_kl_r, ai_kl_n, b2_0, b2_1, if_true, if_false, and_true, true_and, or_false, false_or, or_true, true_or, and_false, false_and, not_true_eq_false, not_false_eq_true, seval, jN, jI_add, jI_sub, jI_mul, jI_neg, jj_lt, jj_le, jj_eq, jj_div, jj_rem, jl_cl, b2_j0, b2_j1, show (0 : Int32) = jI 0 from rfl, show (1 : Int32) = jI 1 from rfl, show (2 : Int32) = jI 2 from rfl, show (3 : Int32) = jI 3 from rfl, show (4 : Int32) = jI 4 from rfl, show (5 : Int32) = jI 5 from rfl, show (6 : Int32) = jI 6 from rfl, show (7 : Int32) = jI 7 from rfl, show (63 : Int32) = jI 63 from rfl, Decidable.not_not, eq_self, lg_self]
  exact h5
set_option maxHeartbeats 4000000 in
theorem lc_34 {D L i : Nat} {X : Nat → Int} {w : ai_H} {k : Nat × Nat} {Q : Option Value → ai_H → Prop} (sr : SRc w L X) (hL : LI w) (iL : i + 7 ≤ L) (L0 : L ≤ 3584) (hk : k.1 ≤ 9000 ∧ k.2 ≤ 900000) (lo : ∀ j, -2147483648 ≤ X j) (hi : ∀ j, X j < 2147483648) (nx : ∀ w', SRc w' L X → LI w' → Ex (D + 61) mL_law 18 [some (.ref 1000300), some (.ref 0), some (.ref 47), some (.int (jI ((i + 7 : Nat) : Int)))] [] k w' Q) : Ex (D + 61) mL_law 1296 [some (.ref 1000300), some (.ref 0), some (.ref 47), some (.int (jI i))] [] k w Q := by
  have s0 := sr.2.2.2.1
  have s47 := sr.2.2.2.2.1
  have e1 := sr.v (j := (i : Int) + 1) (n := i + 1) (by omega)
  have g1 := sr.g L0 (j := (i : Int) + 1) (by omega) (by omega)
  have e2 := sr.v (j := (i : Int) + 2) (n := i + 2) (by omega)
  have g2 := sr.g L0 (j := (i : Int) + 2) (by omega) (by omega)
  have e3 := sr.v (j := (i : Int) + 3) (n := i + 3) (by omega)
  have g3 := sr.g L0 (j := (i : Int) + 3) (by omega) (by omega)
  obtain ⟨g, h, im, mv, S, tn, tp, nt, T, hB, hA, hM⟩ := hL
  simp (disch := first | omega | assumption | exact gC_L ⟨by omega, by omega⟩ rfl | exact gC_L ⟨by show k.1 + 3 ≤ 10000; omega, by show k.2 + 165 ≤ 1000000; omega⟩ rfl) only [sL_law_1296, sL_law_1297, sL_law_1298, sL_law_1299, sL_law_1300, sL_law_1301, sL_law_1302, sL_law_1303, sL_law_1304, sL_law_1305, sL_law_1306, sL_law_1307, sL_law_1308, sL_law_1309, sL_law_1310, sL_law_1311, sL_law_1312, e1, g1, e2, g2, e3, g3, s0, s47, mI_msI, mI_msP, mI_msA, mP_msI, mP_msP, mP_msA, mS_msI, mS_msP, mS_msA, mN_msI, mN_msP, mN_msA, Option.toList_some, Option.toList_none, List.cons_append, List.nil_append, ai_rf_s, ai_rf_n, ai_kl_i, ai_kl_r, ai_kl_n, b2_0, b2_1, if_true, if_false, and_true, true_and, or_false, false_or, or_true, true_or, and_false, false_and, not_true_eq_false, not_false_eq_true, seval, jN, jI_add, jI_sub, jI_mul, jI_neg, jj_lt, jj_le, jj_eq, jj_div, jj_rem, jl_cl, b2_j0, b2_j1, show (0 : Int32) = jI 0 from rfl, show (1 : Int32) = jI 1 from rfl, show (2 : Int32) = jI 2 from rfl, show (3 : Int32) = jI 3 from rfl, show (4 : Int32) = jI 4 from rfl, show (5 : Int32) = jI 5 from rfl, show (6 : Int32) = jI 6 from rfl, show (7 : Int32) = jI 7 from rfl, show (63 : Int32) = jI 63 from rfl, Decidable.not_not, eq_self, lg_self]
  refine Cl.imp (Cl_sc (p_cell hB hA hM (lo (i + 1)) (hi (i + 1)) (lo (i + 2)) (hi (i + 2)) (lo (i + 3)) (hi (i + 3)))) (fun r w1 hh => ?_)
  obtain ⟨⟨z, rfl, hM1⟩, sc⟩ := hh
  have sr := sr.sc sc
  have s0 := sr.2.2.2.1
  have s47 := sr.2.2.2.2.1
  have e1 := sr.v (j := (i : Int) + 1) (n := i + 1) (by omega)
  have g1 := sr.g L0 (j := (i : Int) + 1) (by omega) (by omega)
  have e2 := sr.v (j := (i : Int) + 2) (n := i + 2) (by omega)
  have g2 := sr.g L0 (j := (i : Int) + 2) (by omega) (by omega)
  have e3 := sr.v (j := (i : Int) + 3) (n := i + 3) (by omega)
  have g3 := sr.g L0 (j := (i : Int) + 3) (by omega) (by omega)
  simp (disch := first | omega | assumption | exact gC_L ⟨by omega, by omega⟩ rfl | exact gC_L ⟨by show k.1 + 3 ≤ 10000; omega, by show k.2 + 165 ≤ 1000000; omega⟩ rfl) only [sL_law_1315, sL_law_1316, sL_law_1317, sL_law_1318, sL_law_1319, sL_law_1320, sL_law_1321, sL_law_1322, sL_law_1323, sL_law_1324, sL_law_1325, sL_law_1326, sL_law_1327, sL_law_1328, sL_law_1329, sL_law_1330, sL_law_1331, e1, g1, e2, g2, e3, g3, s0, s47, mI_msI, mI_msP, mI_msA, mP_msI, mP_msP, mP_msA, mS_msI, mS_msP, mS_msA, mN_msI, mN_msP, mN_msA, Option.toList_some, Option.toList_none, List.cons_append, List.nil_append, ai_rf_s, ai_rf_n, ai_kl_i, ai_kl_r, ai_kl_n, b2_0, b2_1, if_true, if_false, and_true, true_and, or_false, false_or, or_true, true_or, and_false, false_and, not_true_eq_false, not_false_eq_true, seval, jN, jI_add, jI_sub, jI_mul, jI_neg, jj_lt, jj_le, jj_eq, jj_div, jj_rem, jl_cl, b2_j0, b2_j1, show (0 : Int32) = jI 0 from rfl, show (1 : Int32) = jI 1 from rfl, show (2 : Int32) = jI 2 from rfl, show (3 : Int32) = jI 3 from rfl, show (4 : Int32) = jI 4 from rfl, show (5 : Int32) = jI 5 from rfl, show (6 : Int32) = jI 6 from rfl, show (7 : Int32) = jI 7 from rfl, show (63 : Int32) = jI 63 from rfl, Decidable.not_not, eq_self, lg_self]
  refine Cl.imp (Cl_sc hM1) (fun r2 w2 hh2 => ?_)
  obtain ⟨⟨rfl, L2⟩, sc2⟩ := hh2
  have h5 := nx w2 (sr.sc sc2) L2
  rw [Int.natCast_add] at h5
  simp (disch := first | omega | assumption | exact gC_L ⟨by omega, by omega⟩ rfl | exact gC_L ⟨by show k.1 + 3 ≤ 10000; omega, by show k.2 + 165 ≤ 1000000; omega⟩ rfl) only [sL_law_1334, sL_law_1337, sL_law_1338, sL_law_1488, sL_law_1491, mI_msI, mI_msP, mI_msA, mP_msI, mP_msP, mP_msA, mS_msI, mS_msP, mS_msA, mN_msI, mN_msP, mN_msA, Option.toList_some, Option.toList_none, List.cons_append, List.nil_append, ai_rf_s, ai_rf_n, ai_kl_i, ai_kl_r, ai_kl_n, b2_0, b2_1, if_true, if_false, and_true, true_and, or_false, false_or, or_true, true_or, and_false, false_and, not_true_eq_false, not_false_eq_true, seval, jN, jI_add, jI_sub, jI_mul, jI_neg, jj_lt, jj_le, jj_eq, jj_div, jj_rem, jl_cl, b2_j0, b2_j1, show (0 : Int32) = jI 0 from rfl, show (1 : Int32) = jI 1 from rfl, show (2 : Int32) = jI 2 from rfl, show (3 : Int32) = jI 3 from rfl, show (4 : Int32) = jI 4 from rfl, show (5 : Int32) = jI 5 from rfl, show (6 : Int32) = jI 6 from rfl, show (7 : Int32) = jI 7 from rfl, show (63 : Int32) = jI 63 from rfl, Decidable.not_not, eq_self, lg_self]
  exact h5
set_option maxHeartbeats 4000000 in
theorem lc_35 {D L i : Nat} {X : Nat → Int} {w : ai_H} {k : Nat × Nat} {Q : Option Value → ai_H → Prop} (sr : SRc w L X) (hL : LI w) (iL : i + 7 ≤ L) (L0 : L ≤ 3584) (hk : k.1 ≤ 9000 ∧ k.2 ≤ 900000) (lo : ∀ j, -2147483648 ≤ X j) (hi : ∀ j, X j < 2147483648) (nx : ∀ w', SRc w' L X → LI w' → Ex (D + 61) mL_law 18 [some (.ref 1000300), some (.ref 0), some (.ref 47), some (.int (jI ((i + 7 : Nat) : Int)))] [] k w' Q) : Ex (D + 61) mL_law 1339 [some (.ref 1000300), some (.ref 0), some (.ref 47), some (.int (jI i))] [] k w Q := by
  have s0 := sr.2.2.2.1
  have s47 := sr.2.2.2.2.1
  have e1 := sr.v (j := (i : Int) + 1) (n := i + 1) (by omega)
  have g1 := sr.g L0 (j := (i : Int) + 1) (by omega) (by omega)
  have e2 := sr.v (j := (i : Int) + 2) (n := i + 2) (by omega)
  have g2 := sr.g L0 (j := (i : Int) + 2) (by omega) (by omega)
  have e3 := sr.v (j := (i : Int) + 3) (n := i + 3) (by omega)
  have g3 := sr.g L0 (j := (i : Int) + 3) (by omega) (by omega)
  have e4 := sr.v (j := (i : Int) + 4) (n := i + 4) (by omega)
  have g4 := sr.g L0 (j := (i : Int) + 4) (by omega) (by omega)
  have e5 := sr.v (j := (i : Int) + 5) (n := i + 5) (by omega)
  have g5 := sr.g L0 (j := (i : Int) + 5) (by omega) (by omega)
  obtain ⟨g, h, im, mv, S, tn, tp, nt, T, hB, hA, hM⟩ := hL
  simp (disch := first | omega | assumption | exact gC_L ⟨by omega, by omega⟩ rfl | exact gC_L ⟨by show k.1 + 3 ≤ 10000; omega, by show k.2 + 165 ≤ 1000000; omega⟩ rfl) only [sL_law_1339, sL_law_1340, sL_law_1341, sL_law_1342, sL_law_1343, sL_law_1344, sL_law_1345, sL_law_1346, sL_law_1347, sL_law_1348, sL_law_1349, sL_law_1350, sL_law_1351, sL_law_1352, sL_law_1353, sL_law_1354, sL_law_1355, sL_law_1356, sL_law_1357, sL_law_1358, sL_law_1359, sL_law_1360, sL_law_1361, sL_law_1362, sL_law_1363, sL_law_1364, sL_law_1365, e1, g1, e2, g2, e3, g3, e4, g4, e5, g5, s0, s47, mI_msI, mI_msP, mI_msA, mP_msI, mP_msP, mP_msA, mS_msI, mS_msP, mS_msA, mN_msI, mN_msP, mN_msA, Option.toList_some, Option.toList_none, List.cons_append, List.nil_append, ai_rf_s, ai_rf_n, ai_kl_i, ai_kl_r, ai_kl_n, b2_0, b2_1, if_true, if_false, and_true, true_and, or_false, false_or, or_true, true_or, and_false, false_and, not_true_eq_false, not_false_eq_true, seval, jN, jI_add, jI_sub, jI_mul, jI_neg, jj_lt, jj_le, jj_eq, jj_div, jj_rem, jl_cl, b2_j0, b2_j1, show (0 : Int32) = jI 0 from rfl, show (1 : Int32) = jI 1 from rfl, show (2 : Int32) = jI 2 from rfl, show (3 : Int32) = jI 3 from rfl, show (4 : Int32) = jI 4 from rfl, show (5 : Int32) = jI 5 from rfl, show (6 : Int32) = jI 6 from rfl, show (7 : Int32) = jI 7 from rfl, show (63 : Int32) = jI 63 from rfl, Decidable.not_not, eq_self, lg_self]
  refine Cl.imp (Cl_sc (p_copy hB hA hM (lo (i + 1)) (hi (i + 1)) (lo (i + 2)) (hi (i + 2)) (lo (i + 3)) (hi (i + 3)) (lo (i + 4)) (hi (i + 4)) (lo (i + 5)) (hi (i + 5)))) (fun r w1 hh => ?_)
  obtain ⟨⟨z, rfl, hM1⟩, sc⟩ := hh
  have sr := sr.sc sc
  have s0 := sr.2.2.2.1
  have s47 := sr.2.2.2.2.1
  have e1 := sr.v (j := (i : Int) + 1) (n := i + 1) (by omega)
  have g1 := sr.g L0 (j := (i : Int) + 1) (by omega) (by omega)
  have e2 := sr.v (j := (i : Int) + 2) (n := i + 2) (by omega)
  have g2 := sr.g L0 (j := (i : Int) + 2) (by omega) (by omega)
  have e3 := sr.v (j := (i : Int) + 3) (n := i + 3) (by omega)
  have g3 := sr.g L0 (j := (i : Int) + 3) (by omega) (by omega)
  have e4 := sr.v (j := (i : Int) + 4) (n := i + 4) (by omega)
  have g4 := sr.g L0 (j := (i : Int) + 4) (by omega) (by omega)
  have e5 := sr.v (j := (i : Int) + 5) (n := i + 5) (by omega)
  have g5 := sr.g L0 (j := (i : Int) + 5) (by omega) (by omega)
  simp (disch := first | omega | assumption | exact gC_L ⟨by omega, by omega⟩ rfl | exact gC_L ⟨by show k.1 + 3 ≤ 10000; omega, by show k.2 + 165 ≤ 1000000; omega⟩ rfl) only [sL_law_1368, sL_law_1369, sL_law_1370, sL_law_1371, sL_law_1372, sL_law_1373, sL_law_1374, sL_law_1375, sL_law_1376, sL_law_1377, sL_law_1378, sL_law_1379, sL_law_1380, sL_law_1381, sL_law_1382, sL_law_1383, sL_law_1384, sL_law_1385, sL_law_1386, sL_law_1387, sL_law_1388, sL_law_1389, sL_law_1390, sL_law_1391, sL_law_1392, sL_law_1393, sL_law_1394, e1, g1, e2, g2, e3, g3, e4, g4, e5, g5, s0, s47, mI_msI, mI_msP, mI_msA, mP_msI, mP_msP, mP_msA, mS_msI, mS_msP, mS_msA, mN_msI, mN_msP, mN_msA, Option.toList_some, Option.toList_none, List.cons_append, List.nil_append, ai_rf_s, ai_rf_n, ai_kl_i, ai_kl_r, ai_kl_n, b2_0, b2_1, if_true, if_false, and_true, true_and, or_false, false_or, or_true, true_or, and_false, false_and, not_true_eq_false, not_false_eq_true, seval, jN, jI_add, jI_sub, jI_mul, jI_neg, jj_lt, jj_le, jj_eq, jj_div, jj_rem, jl_cl, b2_j0, b2_j1, show (0 : Int32) = jI 0 from rfl, show (1 : Int32) = jI 1 from rfl, show (2 : Int32) = jI 2 from rfl, show (3 : Int32) = jI 3 from rfl, show (4 : Int32) = jI 4 from rfl, show (5 : Int32) = jI 5 from rfl, show (6 : Int32) = jI 6 from rfl, show (7 : Int32) = jI 7 from rfl, show (63 : Int32) = jI 63 from rfl, Decidable.not_not, eq_self, lg_self]
  refine Cl.imp (Cl_sc hM1) (fun r2 w2 hh2 => ?_)
  obtain ⟨⟨rfl, L2⟩, sc2⟩ := hh2
  have h5 := nx w2 (sr.sc sc2) L2
  rw [Int.natCast_add] at h5
  simp (disch := first | omega | assumption | exact gC_L ⟨by omega, by omega⟩ rfl | exact gC_L ⟨by show k.1 + 3 ≤ 10000; omega, by show k.2 + 165 ≤ 1000000; omega⟩ rfl) only [sL_law_1397, sL_law_1400, sL_law_1401, sL_law_1488, sL_law_1491, mI_msI, mI_msP, mI_msA, mP_msI, mP_msP, mP_msA, mS_msI, mS_msP, mS_msA, mN_msI, mN_msP, mN_msA, Option.toList_some, Option.toList_none, List.cons_append, List.nil_append, ai_rf_s, ai_rf_n, ai_kl_i, ai_kl_r, ai_kl_n, b2_0, b2_1, if_true, if_false, and_true, true_and, or_false, false_or, or_true, true_or, and_false, false_and, not_true_eq_false, not_false_eq_true, seval, jN, jI_add, jI_sub, jI_mul, jI_neg, jj_lt, jj_le, jj_eq, jj_div, jj_rem, jl_cl, b2_j0, b2_j1, show (0 : Int32) = jI 0 from rfl, show (1 : Int32) = jI 1 from rfl, show (2 : Int32) = jI 2 from rfl, show (3 : Int32) = jI 3 from rfl, show (4 : Int32) = jI 4 from rfl, show (5 : Int32) = jI 5 from rfl, show (6 : Int32) = jI 6 from rfl, show (7 : Int32) = jI 7 from rfl, show (63 : Int32) = jI 63 from rfl, Decidable.not_not, eq_self, lg_self]
  exact h5
set_option maxHeartbeats 4000000 in
theorem lc_36 {D L i : Nat} {X : Nat → Int} {w : ai_H} {k : Nat × Nat} {Q : Option Value → ai_H → Prop} (sr : SRc w L X) (hL : LI w) (iL : i + 7 ≤ L) (L0 : L ≤ 3584) (hk : k.1 ≤ 9000 ∧ k.2 ≤ 900000) (lo : ∀ j, -2147483648 ≤ X j) (hi : ∀ j, X j < 2147483648) (nx : ∀ w', SRc w' L X → LI w' → Ex (D + 61) mL_law 18 [some (.ref 1000300), some (.ref 0), some (.ref 47), some (.int (jI ((i + 7 : Nat) : Int)))] [] k w' Q) : Ex (D + 61) mL_law 1402 [some (.ref 1000300), some (.ref 0), some (.ref 47), some (.int (jI i))] [] k w Q := by
  have s0 := sr.2.2.2.1
  have s47 := sr.2.2.2.2.1
  have e1 := sr.v (j := (i : Int) + 1) (n := i + 1) (by omega)
  have g1 := sr.g L0 (j := (i : Int) + 1) (by omega) (by omega)
  have e2 := sr.v (j := (i : Int) + 2) (n := i + 2) (by omega)
  have g2 := sr.g L0 (j := (i : Int) + 2) (by omega) (by omega)
  have e3 := sr.v (j := (i : Int) + 3) (n := i + 3) (by omega)
  have g3 := sr.g L0 (j := (i : Int) + 3) (by omega) (by omega)
  have e4 := sr.v (j := (i : Int) + 4) (n := i + 4) (by omega)
  have g4 := sr.g L0 (j := (i : Int) + 4) (by omega) (by omega)
  obtain ⟨g, h, im, mv, S, tn, tp, nt, T, hB, hA, hM⟩ := hL
  simp (disch := first | omega | assumption | exact gC_L ⟨by omega, by omega⟩ rfl | exact gC_L ⟨by show k.1 + 3 ≤ 10000; omega, by show k.2 + 165 ≤ 1000000; omega⟩ rfl) only [sL_law_1402, sL_law_1403, sL_law_1404, sL_law_1405, sL_law_1406, sL_law_1407, sL_law_1408, sL_law_1409, sL_law_1410, sL_law_1411, sL_law_1412, sL_law_1413, sL_law_1414, sL_law_1415, sL_law_1416, sL_law_1417, sL_law_1418, sL_law_1419, sL_law_1420, sL_law_1421, sL_law_1422, sL_law_1423, e1, g1, e2, g2, e3, g3, e4, g4, s0, s47, mI_msI, mI_msP, mI_msA, mP_msI, mP_msP, mP_msA, mS_msI, mS_msP, mS_msA, mN_msI, mN_msP, mN_msA, Option.toList_some, Option.toList_none, List.cons_append, List.nil_append, ai_rf_s, ai_rf_n, ai_kl_i, ai_kl_r, ai_kl_n, b2_0, b2_1, if_true, if_false, and_true, true_and, or_false, false_or, or_true, true_or, and_false, false_and, not_true_eq_false, not_false_eq_true, seval, jN, jI_add, jI_sub, jI_mul, jI_neg, jj_lt, jj_le, jj_eq, jj_div, jj_rem, jl_cl, b2_j0, b2_j1, show (0 : Int32) = jI 0 from rfl, show (1 : Int32) = jI 1 from rfl, show (2 : Int32) = jI 2 from rfl, show (3 : Int32) = jI 3 from rfl, show (4 : Int32) = jI 4 from rfl, show (5 : Int32) = jI 5 from rfl, show (6 : Int32) = jI 6 from rfl, show (7 : Int32) = jI 7 from rfl, show (63 : Int32) = jI 63 from rfl, Decidable.not_not, eq_self, lg_self]
  refine Cl.imp (Cl_sc (p_envoysBy hB hA hM (lo (i + 1)) (hi (i + 1)) (lo (i + 2)) (hi (i + 2)) (lo (i + 3)) (hi (i + 3)) (lo (i + 4)) (hi (i + 4)))) (fun r w1 hh => ?_)
  obtain ⟨⟨z, rfl, hM1⟩, sc⟩ := hh
  have sr := sr.sc sc
  have s0 := sr.2.2.2.1
  have s47 := sr.2.2.2.2.1
  have e1 := sr.v (j := (i : Int) + 1) (n := i + 1) (by omega)
  have g1 := sr.g L0 (j := (i : Int) + 1) (by omega) (by omega)
  have e2 := sr.v (j := (i : Int) + 2) (n := i + 2) (by omega)
  have g2 := sr.g L0 (j := (i : Int) + 2) (by omega) (by omega)
  have e3 := sr.v (j := (i : Int) + 3) (n := i + 3) (by omega)
  have g3 := sr.g L0 (j := (i : Int) + 3) (by omega) (by omega)
  have e4 := sr.v (j := (i : Int) + 4) (n := i + 4) (by omega)
  have g4 := sr.g L0 (j := (i : Int) + 4) (by omega) (by omega)
  simp (disch := first | omega | assumption | exact gC_L ⟨by omega, by omega⟩ rfl | exact gC_L ⟨by show k.1 + 3 ≤ 10000; omega, by show k.2 + 165 ≤ 1000000; omega⟩ rfl) only [sL_law_1426, sL_law_1427, sL_law_1428, sL_law_1429, sL_law_1430, sL_law_1431, sL_law_1432, sL_law_1433, sL_law_1434, sL_law_1435, sL_law_1436, sL_law_1437, sL_law_1438, sL_law_1439, sL_law_1440, sL_law_1441, sL_law_1442, sL_law_1443, sL_law_1444, sL_law_1445, sL_law_1446, sL_law_1447, e1, g1, e2, g2, e3, g3, e4, g4, s0, s47, mI_msI, mI_msP, mI_msA, mP_msI, mP_msP, mP_msA, mS_msI, mS_msP, mS_msA, mN_msI, mN_msP, mN_msA, Option.toList_some, Option.toList_none, List.cons_append, List.nil_append, ai_rf_s, ai_rf_n, ai_kl_i, ai_kl_r, ai_kl_n, b2_0, b2_1, if_true, if_false, and_true, true_and, or_false, false_or, or_true, true_or, and_false, false_and, not_true_eq_false, not_false_eq_true, seval, jN, jI_add, jI_sub, jI_mul, jI_neg, jj_lt, jj_le, jj_eq, jj_div, jj_rem, jl_cl, b2_j0, b2_j1, show (0 : Int32) = jI 0 from rfl, show (1 : Int32) = jI 1 from rfl, show (2 : Int32) = jI 2 from rfl, show (3 : Int32) = jI 3 from rfl, show (4 : Int32) = jI 4 from rfl, show (5 : Int32) = jI 5 from rfl, show (6 : Int32) = jI 6 from rfl, show (7 : Int32) = jI 7 from rfl, show (63 : Int32) = jI 63 from rfl, Decidable.not_not, eq_self, lg_self]
  refine Cl.imp (Cl_sc hM1) (fun r2 w2 hh2 => ?_)
  obtain ⟨⟨rfl, L2⟩, sc2⟩ := hh2
  have h5 := nx w2 (sr.sc sc2) L2
  rw [Int.natCast_add] at h5
  simp (disch := first | omega | assumption | exact gC_L ⟨by omega, by omega⟩ rfl | exact gC_L ⟨by show k.1 + 3 ≤ 10000; omega, by show k.2 + 165 ≤ 1000000; omega⟩ rfl) only [sL_law_1450, sL_law_1453, sL_law_1454, sL_law_1488, sL_law_1491, mI_msI, mI_msP, mI_msA, mP_msI, mP_msP, mP_msA, mS_msI, mS_msP, mS_msA, mN_msI, mN_msP, mN_msA, Option.toList_some, Option.toList_none, List.cons_append, List.nil_append, ai_rf_s, ai_rf_n, ai_kl_i, ai_kl_r, ai_kl_n, b2_0, b2_1, if_true, if_false, and_true, true_and, or_false, false_or, or_true, true_or, and_false, false_and, not_true_eq_false, not_false_eq_true, seval, jN, jI_add, jI_sub, jI_mul, jI_neg, jj_lt, jj_le, jj_eq, jj_div, jj_rem, jl_cl, b2_j0, b2_j1, show (0 : Int32) = jI 0 from rfl, show (1 : Int32) = jI 1 from rfl, show (2 : Int32) = jI 2 from rfl, show (3 : Int32) = jI 3 from rfl, show (4 : Int32) = jI 4 from rfl, show (5 : Int32) = jI 5 from rfl, show (6 : Int32) = jI 6 from rfl, show (7 : Int32) = jI 7 from rfl, show (63 : Int32) = jI 63 from rfl, Decidable.not_not, eq_self, lg_self]
  exact h5
set_option maxHeartbeats 4000000 in
theorem lc_37 {D L i : Nat} {X : Nat → Int} {w : ai_H} {k : Nat × Nat} {Q : Option Value → ai_H → Prop} (sr : SRc w L X) (hL : LI w) (iL : i + 7 ≤ L) (L0 : L ≤ 3584) (hk : k.1 ≤ 9000 ∧ k.2 ≤ 900000) (lo : ∀ j, -2147483648 ≤ X j) (hi : ∀ j, X j < 2147483648) (nx : ∀ w', SRc w' L X → LI w' → Ex (D + 61) mL_law 18 [some (.ref 1000300), some (.ref 0), some (.ref 47), some (.int (jI ((i + 7 : Nat) : Int)))] [] k w' Q) : Ex (D + 61) mL_law 1455 [some (.ref 1000300), some (.ref 0), some (.ref 47), some (.int (jI i))] [] k w Q := by
  have s0 := sr.2.2.2.1
  have s47 := sr.2.2.2.2.1
  have e1 := sr.v (j := (i : Int) + 1) (n := i + 1) (by omega)
  have g1 := sr.g L0 (j := (i : Int) + 1) (by omega) (by omega)
  have e2 := sr.v (j := (i : Int) + 2) (n := i + 2) (by omega)
  have g2 := sr.g L0 (j := (i : Int) + 2) (by omega) (by omega)
  obtain ⟨g, h, im, mv, S, tn, tp, nt, T, hB, hA, hM⟩ := hL
  simp (disch := first | omega | assumption | exact gC_L ⟨by omega, by omega⟩ rfl | exact gC_L ⟨by show k.1 + 3 ≤ 10000; omega, by show k.2 + 165 ≤ 1000000; omega⟩ rfl) only [sL_law_1455, sL_law_1456, sL_law_1457, sL_law_1458, sL_law_1459, sL_law_1460, sL_law_1461, sL_law_1462, sL_law_1463, sL_law_1464, sL_law_1465, sL_law_1466, e1, g1, e2, g2, s0, s47, mI_msI, mI_msP, mI_msA, mP_msI, mP_msP, mP_msA, mS_msI, mS_msP, mS_msA, mN_msI, mN_msP, mN_msA, Option.toList_some, Option.toList_none, List.cons_append, List.nil_append, ai_rf_s, ai_rf_n, ai_kl_i, ai_kl_r, ai_kl_n, b2_0, b2_1, if_true, if_false, and_true, true_and, or_false, false_or, or_true, true_or, and_false, false_and, not_true_eq_false, not_false_eq_true, seval, jN, jI_add, jI_sub, jI_mul, jI_neg, jj_lt, jj_le, jj_eq, jj_div, jj_rem, jl_cl, b2_j0, b2_j1, show (0 : Int32) = jI 0 from rfl, show (1 : Int32) = jI 1 from rfl, show (2 : Int32) = jI 2 from rfl, show (3 : Int32) = jI 3 from rfl, show (4 : Int32) = jI 4 from rfl, show (5 : Int32) = jI 5 from rfl, show (6 : Int32) = jI 6 from rfl, show (7 : Int32) = jI 7 from rfl, show (63 : Int32) = jI 63 from rfl, Decidable.not_not, eq_self, lg_self]
  refine Cl.imp (Cl_sc (p_taken hB hA hM (lo (i + 1)) (hi (i + 1)) (lo (i + 2)) (hi (i + 2)))) (fun r w1 hh => ?_)
  obtain ⟨⟨z, rfl, hM1⟩, sc⟩ := hh
  have sr := sr.sc sc
  have s0 := sr.2.2.2.1
  have s47 := sr.2.2.2.2.1
  have e1 := sr.v (j := (i : Int) + 1) (n := i + 1) (by omega)
  have g1 := sr.g L0 (j := (i : Int) + 1) (by omega) (by omega)
  have e2 := sr.v (j := (i : Int) + 2) (n := i + 2) (by omega)
  have g2 := sr.g L0 (j := (i : Int) + 2) (by omega) (by omega)
  simp (disch := first | omega | assumption | exact gC_L ⟨by omega, by omega⟩ rfl | exact gC_L ⟨by show k.1 + 3 ≤ 10000; omega, by show k.2 + 165 ≤ 1000000; omega⟩ rfl) only [sL_law_1469, sL_law_1470, sL_law_1471, sL_law_1472, sL_law_1473, sL_law_1474, sL_law_1475, sL_law_1476, sL_law_1477, sL_law_1478, sL_law_1479, sL_law_1480, e1, g1, e2, g2, s0, s47, mI_msI, mI_msP, mI_msA, mP_msI, mP_msP, mP_msA, mS_msI, mS_msP, mS_msA, mN_msI, mN_msP, mN_msA, Option.toList_some, Option.toList_none, List.cons_append, List.nil_append, ai_rf_s, ai_rf_n, ai_kl_i, ai_kl_r, ai_kl_n, b2_0, b2_1, if_true, if_false, and_true, true_and, or_false, false_or, or_true, true_or, and_false, false_and, not_true_eq_false, not_false_eq_true, seval, jN, jI_add, jI_sub, jI_mul, jI_neg, jj_lt, jj_le, jj_eq, jj_div, jj_rem, jl_cl, b2_j0, b2_j1, show (0 : Int32) = jI 0 from rfl, show (1 : Int32) = jI 1 from rfl, show (2 : Int32) = jI 2 from rfl, show (3 : Int32) = jI 3 from rfl, show (4 : Int32) = jI 4 from rfl, show (5 : Int32) = jI 5 from rfl, show (6 : Int32) = jI 6 from rfl, show (7 : Int32) = jI 7 from rfl, show (63 : Int32) = jI 63 from rfl, Decidable.not_not, eq_self, lg_self]
  refine Cl.imp (Cl_sc hM1) (fun r2 w2 hh2 => ?_)
  obtain ⟨⟨rfl, L2⟩, sc2⟩ := hh2
  have h5 := nx w2 (sr.sc sc2) L2
  rw [Int.natCast_add] at h5
  simp (disch := first | omega | assumption | exact gC_L ⟨by omega, by omega⟩ rfl | exact gC_L ⟨by show k.1 + 3 ≤ 10000; omega, by show k.2 + 165 ≤ 1000000; omega⟩ rfl) only [sL_law_1483, sL_law_1486, sL_law_1487, sL_law_1488, sL_law_1491, mI_msI, mI_msP, mI_msA, mP_msI, mP_msP, mP_msA, mS_msI, mS_msP, mS_msA, mN_msI, mN_msP, mN_msA, Option.toList_some, Option.toList_none, List.cons_append, List.nil_append, ai_rf_s, ai_rf_n, ai_kl_i, ai_kl_r, ai_kl_n, b2_0, b2_1, if_true, if_false, and_true, true_and, or_false, false_or, or_true, true_or, and_false, false_and, not_true_eq_false, not_false_eq_true, seval, jN, jI_add, jI_sub, jI_mul, jI_neg, jj_lt, jj_le, jj_eq, jj_div, jj_rem, jl_cl, b2_j0, b2_j1, show (0 : Int32) = jI 0 from rfl, show (1 : Int32) = jI 1 from rfl, show (2 : Int32) = jI 2 from rfl, show (3 : Int32) = jI 3 from rfl, show (4 : Int32) = jI 4 from rfl, show (5 : Int32) = jI 5 from rfl, show (6 : Int32) = jI 6 from rfl, show (7 : Int32) = jI 7 from rfl, show (63 : Int32) = jI 63 from rfl, Decidable.not_not, eq_self, lg_self]
  exact h5
