/-! the law comes to its end with true -/
theorem an63 (x : Int32) : ∃ v : Int, 0 ≤ v ∧ v ≤ 63 ∧ x &&& jI 63 = jI v := by
  have hb : (x &&& jI 63).toBitVec.toNat ≤ 63 := by
    rw [Int32.toBitVec_and, BitVec.toNat_and]
    exact Nat.le_trans Nat.and_le_right (by decide)
  have ht : (x &&& jI 63).toInt = ((x &&& jI 63).toBitVec.toNat : Nat) := BitVec.toInt_eq_toNat_of_lt (by omega)
  exact ⟨(x &&& jI 63).toInt, by omega, by omega, (jI_of _).symm⟩
theorem vn_1 : vp_nar .boolean 1 = 1 := by decide
set_option maxHeartbeats 4000000 in
theorem lg_case {v : Int} {D L i : Nat} {X : Nat → Int} {w : ai_H} {k : Nat × Nat} {Q : Option Value → ai_H → Prop} (sr : SRc w L X) (hL : LI w) (iL : i + 7 ≤ L) (L0 : L ≤ 3584) (hk : k.1 ≤ 9000 ∧ k.2 ≤ 900000) (lo : ∀ j, -2147483648 ≤ X j) (hi : ∀ j, X j < 2147483648) (v0 : 0 ≤ v) (v1 : v ≤ 63) (nx : ∀ (k1 : Nat × Nat) (w1 : ai_H), SRc w1 L X → LI w1 → k1.1 ≤ k.1 + 3 → k1.2 ≤ k.2 + 165 → Ex (D + 61) mL_law 18 [some (.ref 1000300), some (.ref 0), some (.ref 47), some (.int (jI ((i + 7 : Nat) : Int)))] [] k1 w1 Q) : ExSw (jI v) 0 [200, 223, 256, 331, 344, 367, 420, 453, 486, 519, 542, 555, 568, 601, 634, 667, 690, 723, 767, 800, 843, 876, 909, 942, 965, 998, 1041, 1074, 1097, 1130, 1173, 1227, 1240, 1253, 1296, 1339, 1402, 1455] 1488 (fun t => Ex (D + 61) mL_law t [some (.ref 1000300), some (.ref 0), some (.ref 47), some (.int (jI i))] [] k w Q) := by
  have n1 := fun w1 h1 h2 => nx k w1 h1 h2 (by omega) (by omega)
  have n3 := fun w1 h1 h2 => nx (k.1 + 3, k.2 + 165) w1 h1 h2 (Nat.le_refl _) (Nat.le_refl _)
  have hv : v = 0 ∨ v = 1 ∨ v = 2 ∨ v = 3 ∨ v = 4 ∨ v = 5 ∨ v = 6 ∨ v = 7 ∨ v = 8 ∨ v = 9 ∨ v = 10 ∨ v = 11 ∨ v = 12 ∨ v = 13 ∨ v = 14 ∨ v = 15 ∨ v = 16 ∨ v = 17 ∨ v = 18 ∨ v = 19 ∨ v = 20 ∨ v = 21 ∨ v = 22 ∨ v = 23 ∨ v = 24 ∨ v = 25 ∨ v = 26 ∨ v = 27 ∨ v = 28 ∨ v = 29 ∨ v = 30 ∨ v = 31 ∨ v = 32 ∨ v = 33 ∨ v = 34 ∨ v = 35 ∨ v = 36 ∨ v = 37 ∨ 38 ≤ v := by omega
  rcases hv with h0 | h1 | h2 | h3 | h4 | h5 | h6 | h7 | h8 | h9 | h10 | h11 | h12 | h13 | h14 | h15 | h16 | h17 | h18 | h19 | h20 | h21 | h22 | h23 | h24 | h25 | h26 | h27 | h28 | h29 | h30 | h31 | h32 | h33 | h34 | h35 | h36 | h37 | h38
  · subst h0
    exact (ExSw_in (jI 0) 1488 _ _ 0 200 (by rw [jt (by decide) (by decide)]; decide) (by rw [jt (by decide) (by decide)]; rfl)).mpr (lc_0 sr hL iL L0 hk lo hi n1)
  · subst h1
    exact (ExSw_in (jI 1) 1488 _ _ 0 223 (by rw [jt (by decide) (by decide)]; decide) (by rw [jt (by decide) (by decide)]; rfl)).mpr (lc_1 sr hL iL L0 hk lo hi n1)
  · subst h2
    exact (ExSw_in (jI 2) 1488 _ _ 0 256 (by rw [jt (by decide) (by decide)]; decide) (by rw [jt (by decide) (by decide)]; rfl)).mpr (lc_2 sr hL iL L0 hk lo hi n1)
  · subst h3
    exact (ExSw_in (jI 3) 1488 _ _ 0 331 (by rw [jt (by decide) (by decide)]; decide) (by rw [jt (by decide) (by decide)]; rfl)).mpr (lc_3 sr hL iL L0 hk lo hi n3)
  · subst h4
    exact (ExSw_in (jI 4) 1488 _ _ 0 344 (by rw [jt (by decide) (by decide)]; decide) (by rw [jt (by decide) (by decide)]; rfl)).mpr (lc_4 sr hL iL L0 hk lo hi n1)
  · subst h5
    exact (ExSw_in (jI 5) 1488 _ _ 0 367 (by rw [jt (by decide) (by decide)]; decide) (by rw [jt (by decide) (by decide)]; rfl)).mpr (lc_5 sr hL iL L0 hk lo hi n1)
  · subst h6
    exact (ExSw_in (jI 6) 1488 _ _ 0 420 (by rw [jt (by decide) (by decide)]; decide) (by rw [jt (by decide) (by decide)]; rfl)).mpr (lc_6 sr hL iL L0 hk lo hi n1)
  · subst h7
    exact (ExSw_in (jI 7) 1488 _ _ 0 453 (by rw [jt (by decide) (by decide)]; decide) (by rw [jt (by decide) (by decide)]; rfl)).mpr (lc_7 sr hL iL L0 hk lo hi n1)
  · subst h8
    exact (ExSw_in (jI 8) 1488 _ _ 0 486 (by rw [jt (by decide) (by decide)]; decide) (by rw [jt (by decide) (by decide)]; rfl)).mpr (lc_8 sr hL iL L0 hk lo hi n1)
  · subst h9
    exact (ExSw_in (jI 9) 1488 _ _ 0 519 (by rw [jt (by decide) (by decide)]; decide) (by rw [jt (by decide) (by decide)]; rfl)).mpr (lc_9 sr hL iL L0 hk lo hi n1)
  · subst h10
    exact (ExSw_in (jI 10) 1488 _ _ 0 542 (by rw [jt (by decide) (by decide)]; decide) (by rw [jt (by decide) (by decide)]; rfl)).mpr (lc_10 sr hL iL L0 hk lo hi n1)
  · subst h11
    exact (ExSw_in (jI 11) 1488 _ _ 0 555 (by rw [jt (by decide) (by decide)]; decide) (by rw [jt (by decide) (by decide)]; rfl)).mpr (lc_11 sr hL iL L0 hk lo hi n1)
  · subst h12
    exact (ExSw_in (jI 12) 1488 _ _ 0 568 (by rw [jt (by decide) (by decide)]; decide) (by rw [jt (by decide) (by decide)]; rfl)).mpr (lc_12 sr hL iL L0 hk lo hi n1)
  · subst h13
    exact (ExSw_in (jI 13) 1488 _ _ 0 601 (by rw [jt (by decide) (by decide)]; decide) (by rw [jt (by decide) (by decide)]; rfl)).mpr (lc_13 sr hL iL L0 hk lo hi n1)
  · subst h14
    exact (ExSw_in (jI 14) 1488 _ _ 0 634 (by rw [jt (by decide) (by decide)]; decide) (by rw [jt (by decide) (by decide)]; rfl)).mpr (lc_14 sr hL iL L0 hk lo hi n1)
  · subst h15
    exact (ExSw_in (jI 15) 1488 _ _ 0 667 (by rw [jt (by decide) (by decide)]; decide) (by rw [jt (by decide) (by decide)]; rfl)).mpr (lc_15 sr hL iL L0 hk lo hi n1)
  · subst h16
    exact (ExSw_in (jI 16) 1488 _ _ 0 690 (by rw [jt (by decide) (by decide)]; decide) (by rw [jt (by decide) (by decide)]; rfl)).mpr (lc_16 sr hL iL L0 hk lo hi n1)
  · subst h17
    exact (ExSw_in (jI 17) 1488 _ _ 0 723 (by rw [jt (by decide) (by decide)]; decide) (by rw [jt (by decide) (by decide)]; rfl)).mpr (lc_17 sr hL iL L0 hk lo hi n1)
  · subst h18
    exact (ExSw_in (jI 18) 1488 _ _ 0 767 (by rw [jt (by decide) (by decide)]; decide) (by rw [jt (by decide) (by decide)]; rfl)).mpr (lc_18 sr hL iL L0 hk lo hi n1)
  · subst h19
    exact (ExSw_in (jI 19) 1488 _ _ 0 800 (by rw [jt (by decide) (by decide)]; decide) (by rw [jt (by decide) (by decide)]; rfl)).mpr (lc_19 sr hL iL L0 hk lo hi n1)
  · subst h20
    exact (ExSw_in (jI 20) 1488 _ _ 0 843 (by rw [jt (by decide) (by decide)]; decide) (by rw [jt (by decide) (by decide)]; rfl)).mpr (lc_20 sr hL iL L0 hk lo hi n1)
  · subst h21
    exact (ExSw_in (jI 21) 1488 _ _ 0 876 (by rw [jt (by decide) (by decide)]; decide) (by rw [jt (by decide) (by decide)]; rfl)).mpr (lc_21 sr hL iL L0 hk lo hi n1)
  · subst h22
    exact (ExSw_in (jI 22) 1488 _ _ 0 909 (by rw [jt (by decide) (by decide)]; decide) (by rw [jt (by decide) (by decide)]; rfl)).mpr (lc_22 sr hL iL L0 hk lo hi n1)
  · subst h23
    exact (ExSw_in (jI 23) 1488 _ _ 0 942 (by rw [jt (by decide) (by decide)]; decide) (by rw [jt (by decide) (by decide)]; rfl)).mpr (lc_23 sr hL iL L0 hk lo hi n1)
  · subst h24
    exact (ExSw_in (jI 24) 1488 _ _ 0 965 (by rw [jt (by decide) (by decide)]; decide) (by rw [jt (by decide) (by decide)]; rfl)).mpr (lc_24 sr hL iL L0 hk lo hi n1)
  · subst h25
    exact (ExSw_in (jI 25) 1488 _ _ 0 998 (by rw [jt (by decide) (by decide)]; decide) (by rw [jt (by decide) (by decide)]; rfl)).mpr (lc_25 sr hL iL L0 hk lo hi n1)
  · subst h26
    exact (ExSw_in (jI 26) 1488 _ _ 0 1041 (by rw [jt (by decide) (by decide)]; decide) (by rw [jt (by decide) (by decide)]; rfl)).mpr (lc_26 sr hL iL L0 hk lo hi n1)
  · subst h27
    exact (ExSw_in (jI 27) 1488 _ _ 0 1074 (by rw [jt (by decide) (by decide)]; decide) (by rw [jt (by decide) (by decide)]; rfl)).mpr (lc_27 sr hL iL L0 hk lo hi n1)
  · subst h28
    exact (ExSw_in (jI 28) 1488 _ _ 0 1097 (by rw [jt (by decide) (by decide)]; decide) (by rw [jt (by decide) (by decide)]; rfl)).mpr (lc_28 sr hL iL L0 hk lo hi n1)
  · subst h29
    exact (ExSw_in (jI 29) 1488 _ _ 0 1130 (by rw [jt (by decide) (by decide)]; decide) (by rw [jt (by decide) (by decide)]; rfl)).mpr (lc_29 sr hL iL L0 hk lo hi n1)
  · subst h30
    exact (ExSw_in (jI 30) 1488 _ _ 0 1173 (by rw [jt (by decide) (by decide)]; decide) (by rw [jt (by decide) (by decide)]; rfl)).mpr (lc_30 sr hL iL L0 hk lo hi n1)
  · subst h31
    exact (ExSw_in (jI 31) 1488 _ _ 0 1227 (by rw [jt (by decide) (by decide)]; decide) (by rw [jt (by decide) (by decide)]; rfl)).mpr (lc_31 sr hL iL L0 hk lo hi n1)
  · subst h32
    exact (ExSw_in (jI 32) 1488 _ _ 0 1240 (by rw [jt (by decide) (by decide)]; decide) (by rw [jt (by decide) (by decide)]; rfl)).mpr (lc_32 sr hL iL L0 hk lo hi n1)
  · subst h33
    exact (ExSw_in (jI 33) 1488 _ _ 0 1253 (by rw [jt (by decide) (by decide)]; decide) (by rw [jt (by decide) (by decide)]; rfl)).mpr (lc_33 sr hL iL L0 hk lo hi n1)
  · subst h34
    exact (ExSw_in (jI 34) 1488 _ _ 0 1296 (by rw [jt (by decide) (by decide)]; decide) (by rw [jt (by decide) (by decide)]; rfl)).mpr (lc_34 sr hL iL L0 hk lo hi n1)
  · subst h35
    exact (ExSw_in (jI 35) 1488 _ _ 0 1339 (by rw [jt (by decide) (by decide)]; decide) (by rw [jt (by decide) (by decide)]; rfl)).mpr (lc_35 sr hL iL L0 hk lo hi n1)
  · subst h36
    exact (ExSw_in (jI 36) 1488 _ _ 0 1402 (by rw [jt (by decide) (by decide)]; decide) (by rw [jt (by decide) (by decide)]; rfl)).mpr (lc_36 sr hL iL L0 hk lo hi n1)
  · subst h37
    exact (ExSw_in (jI 37) 1488 _ _ 0 1455 (by rw [jt (by decide) (by decide)]; decide) (by rw [jt (by decide) (by decide)]; rfl)).mpr (lc_37 sr hL iL L0 hk lo hi n1)
  · rw [ExSw_out (jI v) 1488 _ _ 0 (Or.inr (by rw [jt (by omega) (by omega)]; simp only [List.length_cons, List.length_nil]; omega))]
    have h5 := n1 w sr hL
    rw [Int.natCast_add] at h5
    simp (disch := first | omega | assumption | exact gC_L ⟨by omega, by omega⟩ rfl | exact gC_L ⟨by show k.1 + 3 ≤ 10000; omega, by show k.2 + 165 ≤ 1000000; omega⟩ rfl) only [sL_law_1488, sL_law_1491, mI_msI, mI_msP, mI_msA, mP_msI, mP_msP, mP_msA, mS_msI, mS_msP, mS_msA, mN_msI, mN_msP, mN_msA, Option.toList_some, Option.toList_none, List.cons_append, List.nil_append, ai_rf_s, ai_rf_n, ai_kl_i, ai_kl_r, ai_kl_n, b2_0, b2_1, if_true, if_false, and_true, true_and, or_false, false_or, or_true, true_or, and_false, false_and, not_true_eq_false, not_false_eq_true, seval, jN, jI_add, jI_sub, jI_mul, jI_neg, jj_lt, jj_le, jj_eq, jj_div, jj_rem, jl_cl, b2_j0, b2_j1, show (0 : Int32) = jI 0 from rfl, show (1 : Int32) = jI 1 from rfl, show (2 : Int32) = jI 2 from rfl, show (3 : Int32) = jI 3 from rfl, show (4 : Int32) = jI 4 from rfl, show (5 : Int32) = jI 5 from rfl, show (6 : Int32) = jI 6 from rfl, show (7 : Int32) = jI 7 from rfl, show (63 : Int32) = jI 63 from rfl, Decidable.not_not, eq_self, lg_self]
    exact h5
theorem SRc.sl {w : ai_H} {L : Nat} {X : Nat → Int} (h : SRc w L X) : ai_sl w = L := by
  unfold ai_sl
  rw [h.2.2.1]
  rfl
theorem lg_gR {k : Nat × Nat} (h : k.1 ≤ 10000 ∧ k.2 ≤ 1000000) : gR mL_law k := by
  have e1 : ai_mc mL_law = 600000 := rfl
  have e2 : ai_mz mL_law = 7302249 := rfl
  unfold gR
  rw [e1, e2]
  omega
set_option maxHeartbeats 4000000 in
theorem lg_loop {D L : Nat} {X : Nat → Int} {Q : Option Value → ai_H → Prop} (L0 : L ≤ 3584) (lo : ∀ j, -2147483648 ≤ X j) (hi : ∀ j, X j < 2147483648) (hQ : ∀ w', Q (some (.int (jI 1))) w') : ∀ (n i : Nat) (k : Nat × Nat) (w : ai_H), SRc w L X → LI w → L ≤ i + 7 * n → i ≤ 3600 → k.1 + 3 * n ≤ 8000 → k.2 + 165 * n ≤ 800000 → Ex (D + 61) mL_law 18 [some (.ref 1000300), some (.ref 0), some (.ref 47), some (.int (jI i))] [] k w Q := by
  intro n
  induction n with
  | zero =>
    intro i k w sr hL hn hi' k1 k2
    have m0 : (mS w 1000300).1 = 0 := by
      have := sr.1
      exact mS_hi (by omega)
    have mv : ai_isV 1000300 = false := rfl
    have mx : ai_isX 1000300 = true := rfl
    have hsl := sr.sl
    have hk : k.1 ≤ 9000 ∧ k.2 ≤ 900000 := by omega
    have hR : gR mL_law k := lg_gR (by omega)
    simp (disch := first | omega | assumption | exact gC_L ⟨by omega, by omega⟩ rfl | exact gC_L ⟨by show k.1 + 3 ≤ 10000; omega, by show k.2 + 165 ≤ 1000000; omega⟩ rfl) only [sL_law_18, sL_law_19, sL_law_20, sL_law_21, sL_law_23, sL_law_24, hsl, mI_msI, mI_msP, mI_msA, mP_msI, mP_msP, mP_msA, mS_msI, mS_msP, mS_msA, mN_msI, mN_msP, mN_msA, Option.toList_some, Option.toList_none, List.cons_append, List.nil_append, ai_rf_s, ai_rf_n, ai_kl_i, ai_kl_r, ai_kl_n, b2_0, b2_1, if_true, if_false, and_true, true_and, or_false, false_or, or_true, true_or, and_false, false_and, not_true_eq_false, not_false_eq_true, seval, jN, jI_add, jI_sub, jI_mul, jI_neg, jj_lt, jj_le, jj_eq, jj_div, jj_rem, jl_cl, b2_j0, b2_j1, show (0 : Int32) = jI 0 from rfl, show (1 : Int32) = jI 1 from rfl, show (2 : Int32) = jI 2 from rfl, show (3 : Int32) = jI 3 from rfl, show (4 : Int32) = jI 4 from rfl, show (5 : Int32) = jI 5 from rfl, show (6 : Int32) = jI 6 from rfl, show (7 : Int32) = jI 7 from rfl, show (63 : Int32) = jI 63 from rfl, Decidable.not_not, eq_self, lg_self]
    rw [if_pos (by omega)]
    rw [sL_law_1494, sL_law_1495 hR vn_1]
    exact hQ w
  | succ n ih =>
    intro i k w sr hL hn hi' k1 k2
    have m0 : (mS w 1000300).1 = 0 := by
      have := sr.1
      exact mS_hi (by omega)
    have mv : ai_isV 1000300 = false := rfl
    have mx : ai_isX 1000300 = true := rfl
    have hsl := sr.sl
    have hk : k.1 ≤ 9000 ∧ k.2 ≤ 900000 := by omega
    have hR : gR mL_law k := lg_gR (by omega)
    by_cases hf : L < i + 7
    · simp (disch := first | omega | assumption | exact gC_L ⟨by omega, by omega⟩ rfl | exact gC_L ⟨by show k.1 + 3 ≤ 10000; omega, by show k.2 + 165 ≤ 1000000; omega⟩ rfl) only [sL_law_18, sL_law_19, sL_law_20, sL_law_21, sL_law_23, sL_law_24, hsl, mI_msI, mI_msP, mI_msA, mP_msI, mP_msP, mP_msA, mS_msI, mS_msP, mS_msA, mN_msI, mN_msP, mN_msA, Option.toList_some, Option.toList_none, List.cons_append, List.nil_append, ai_rf_s, ai_rf_n, ai_kl_i, ai_kl_r, ai_kl_n, b2_0, b2_1, if_true, if_false, and_true, true_and, or_false, false_or, or_true, true_or, and_false, false_and, not_true_eq_false, not_false_eq_true, seval, jN, jI_add, jI_sub, jI_mul, jI_neg, jj_lt, jj_le, jj_eq, jj_div, jj_rem, jl_cl, b2_j0, b2_j1, show (0 : Int32) = jI 0 from rfl, show (1 : Int32) = jI 1 from rfl, show (2 : Int32) = jI 2 from rfl, show (3 : Int32) = jI 3 from rfl, show (4 : Int32) = jI 4 from rfl, show (5 : Int32) = jI 5 from rfl, show (6 : Int32) = jI 6 from rfl, show (7 : Int32) = jI 7 from rfl, show (63 : Int32) = jI 63 from rfl, Decidable.not_not, eq_self, lg_self]
      rw [if_pos (by omega)]
      rw [sL_law_1494, sL_law_1495 hR vn_1]
      exact hQ w
    · have e0 := sr.v (j := (i : Int)) (n := i) rfl
      have g0 := sr.g L0 (j := (i : Int)) (by omega) (by omega)
      obtain ⟨v, v0, v1, hv⟩ := an63 (jI (X i))
      simp (disch := first | omega | assumption | exact gC_L ⟨by omega, by omega⟩ rfl | exact gC_L ⟨by show k.1 + 3 ≤ 10000; omega, by show k.2 + 165 ≤ 1000000; omega⟩ rfl) only [sL_law_18, sL_law_19, sL_law_20, sL_law_21, sL_law_23, sL_law_24, hsl, mI_msI, mI_msP, mI_msA, mP_msI, mP_msP, mP_msA, mS_msI, mS_msP, mS_msA, mN_msI, mN_msP, mN_msA, Option.toList_some, Option.toList_none, List.cons_append, List.nil_append, ai_rf_s, ai_rf_n, ai_kl_i, ai_kl_r, ai_kl_n, b2_0, b2_1, if_true, if_false, and_true, true_and, or_false, false_or, or_true, true_or, and_false, false_and, not_true_eq_false, not_false_eq_true, seval, jN, jI_add, jI_sub, jI_mul, jI_neg, jj_lt, jj_le, jj_eq, jj_div, jj_rem, jl_cl, b2_j0, b2_j1, show (0 : Int32) = jI 0 from rfl, show (1 : Int32) = jI 1 from rfl, show (2 : Int32) = jI 2 from rfl, show (3 : Int32) = jI 3 from rfl, show (4 : Int32) = jI 4 from rfl, show (5 : Int32) = jI 5 from rfl, show (6 : Int32) = jI 6 from rfl, show (7 : Int32) = jI 7 from rfl, show (63 : Int32) = jI 63 from rfl, Decidable.not_not, eq_self, lg_self]
      rw [if_neg (by omega)]
      simp (disch := first | omega | assumption | exact gC_L ⟨by omega, by omega⟩ rfl | exact gC_L ⟨by show k.1 + 3 ≤ 10000; omega, by show k.2 + 165 ≤ 1000000; omega⟩ rfl) only [sL_law_27, sL_law_28, sL_law_29, sL_law_30, sL_law_32, sL_law_33, e0, g0, hv, mI_msI, mI_msP, mI_msA, mP_msI, mP_msP, mP_msA, mS_msI, mS_msP, mS_msA, mN_msI, mN_msP, mN_msA, Option.toList_some, Option.toList_none, List.cons_append, List.nil_append, ai_rf_s, ai_rf_n, ai_kl_i, ai_kl_r, ai_kl_n, b2_0, b2_1, if_true, if_false, and_true, true_and, or_false, false_or, or_true, true_or, and_false, false_and, not_true_eq_false, not_false_eq_true, seval, jN, jI_add, jI_sub, jI_mul, jI_neg, jj_lt, jj_le, jj_eq, jj_div, jj_rem, jl_cl, b2_j0, b2_j1, show (0 : Int32) = jI 0 from rfl, show (1 : Int32) = jI 1 from rfl, show (2 : Int32) = jI 2 from rfl, show (3 : Int32) = jI 3 from rfl, show (4 : Int32) = jI 4 from rfl, show (5 : Int32) = jI 5 from rfl, show (6 : Int32) = jI 6 from rfl, show (7 : Int32) = jI 7 from rfl, show (63 : Int32) = jI 63 from rfl, Decidable.not_not, eq_self, lg_self]
      exact lg_case sr hL (by omega) L0 hk lo hi v0 v1 (fun kk ww h1 h2 h3 h4 => ih (i + 7) kk ww h1 h2 (by omega) (by omega) (by omega) (by omega))
theorem gO_L {w : ai_H} {k : Nat × Nat} {ci : Nat} (hk : k.1 ≤ 10000 ∧ k.2 ≤ 1000000) (hc : (decide (ci < 8) && decide (ai_nf ci ≤ 1000)) = true) (hn : mN w ≤ 1000) : gO w mL_law k ci := by
  simp only [Bool.and_eq_true, decide_eq_true_eq] at hc
  have e1 : ai_mc mL_law = 600000 := rfl
  have e2 : ai_mz mL_law = 7302249 := rfl
  unfold gO
  rw [e1, e2]
  omega
set_option maxHeartbeats 4000000 in
theorem lg_all {L : Nat} {X : Nat → Int} {Q : Option Value → ai_H → Prop} {w : ai_H} (L0 : L ≤ 3584) (lo : ∀ j, -2147483648 ≤ X j) (hi : ∀ j, X j < 2147483648) (hQ : ∀ w', Q (some (.int (jI 1))) w') (n0 : mN w = 0) (xI : ∀ j, mI w 1000300 j = jI (X j)) (xP : mP w 1000300 0 = some L) : Ex (239 + 61) mL_law 0 [some (.ref 1000300), none, none, none] [] (0, 0) w Q := by
  have q1 : mN (mnew w (1, 6)) = 1 := by rw [mN_mnew, n0]
  have h0 : mS (mnew w (1, 6)) 0 = (1, 6) := by rw [mS_mnew, n0, if_pos rfl]
  have z0 : ∀ k, mI (mnew w (1, 6)) 0 k = jI 0 := fun k => by rw [mI_mnew, n0, if_pos rfl]; rfl
  rw [sL_law_0]
  refine ⟨gO_L (by decide) rfl (by omega), ?_⟩
  rw [sL_law_3, sL_law_4 (gC_L (by decide) rfl), n0]
  refine Cl.imp (Cl_sc (c_init (d := 239) (Q := fun r w1 => r = none ∧ C1 w1) q1 h0 z0 (fun w1 c1 => ⟨rfl, c1⟩))) (fun r w1 hh => ?_)
  obtain ⟨⟨rfl, c1⟩, sc1⟩ := hh
  have n1 : mN w1 = 47 := (C1_l c1).2.1
  show Ex (239 + 61) mL_law 7 [some (.ref 1000300), none, none, none] [.ref 0] (101, 3012) w1 Q
  rw [sL_law_7, sL_law_8]
  refine ⟨gO_L (by decide) rfl (by omega), ?_⟩
  rw [sL_law_11, sL_law_12 (gC_L (by decide) rfl), n1]
  refine Cl.imp (Cl_sc (n_init (d := 279) (Q := fun r w2 => r = none ∧ LI w2) c1 (fun w2 c2 => ⟨rfl, c2⟩))) (fun r w2 hh => ?_)
  obtain ⟨⟨rfl, c2⟩, sc2⟩ := hh
  show Ex (239 + 61) mL_law 15 [some (.ref 1000300), some (.ref 0), none, none] [.ref 47] (202, 13057) w2 Q
  rw [sL_law_15, sL_law_16, sL_law_17]
  have sr : SRc w2 L X := by
    have s0 : SC w (mnew w (1, 6)) := SC.n (by omega)
    have s1 : SC w1 (mnew w1 (1, 7)) := SC.n (by omega)
    have b1 := (sc1.trans (s1.trans sc2)) (by omega)
    have b0 := (s0.trans (sc1.trans (s1.trans sc2))) (by omega)
    have b2 := sc2 (by rw [mN_mnew]; omega)
    refine ⟨b0.1, fun j => (b0.2.1 j).trans (xI j), (b0.2.2.1 0).trans xP, (b1.2.2.2.2 0 (by omega)).trans h0, (b2.2.2.2.2 47 (by rw [mN_mnew]; omega)).trans ?_, ?_⟩
    · rw [mS_mnew, n1, if_pos rfl]
    · have := b2.2.2.2.1
      rw [mN_mnew] at this
      omega
  exact lg_loop L0 lo hi hQ 512 0 (202, 13057) w2 sr c2 (by omega) (by omega) (by decide) (by decide)
theorem law_runs : ai_LawRuns := by
  intro L xs hL
  have key : Ex (239 + 61) mL_law 0 [some (.ref 1000300), none, none, none] [] (0, 0) (ai_w0 L xs) (fun r _ => r = some (.int (jI 1))) := lg_all (X := fun j => (xs j).toInt) hL (fun j => (xs j).le_toInt) (fun j => (xs j).toInt_lt) (fun _ => rfl) rfl (fun j => (jI_of (xs j)).symm) rfl
  obtain ⟨n, r, w', h1, rfl⟩ := key
  exact ⟨n, w', h1⟩
