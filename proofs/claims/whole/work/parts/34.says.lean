/-! a text is reckoned, a law is asked: the class -/
def evF (nm : Int → Int32) (P : List Int) : Int32 := rnF nm P 0 (fun _ => 0) 0
theorem evF_eq {nm : Int → Int32} {P : List Int} {f : Nat → Int32} (h : okP P 0) : rnF nm P 0 f 0 = evF nm P := rnF_congr P 0 f _ h (fun i hi => absurd hi (Nat.not_lt_zero i))
theorem rnF_nm {nm nm' : Int → Int32} (h : ∀ z, -6 ≤ z → z < 0 → nm z = nm' z) : ∀ (P : List Int) (n : Nat) (f : Nat → Int32), rnF nm P n f = rnF nm' P n f := by
  intro P
  induction P with
  | nil => intro n f; rfl
  | cons z r ih =>
    intro n f
    unfold rnF
    simp only [ih]
    by_cases h1 : -6 ≤ z
    · by_cases h2 : 0 ≤ z
      · simp only [h1, h2, if_true]
      · simp only [h1, h2, if_true, if_false, h z h1 (by omega)]
    · simp only [h1, if_false]
theorem evF_nm {nm nm' : Int → Int32} (h : ∀ z, -6 ≤ z → z < 0 → nm z = nm' z) (P : List Int) : evF nm P = evF nm' P := by
  unfold evF
  rw [rnF_nm h]
def TX (w : ai_H) (nt : Int) (T : Nat → Nat → List Int) : Prop := LW w nt ∧ ∀ t : Nat, (t : Int) < nt → ∃ a s st n, TXa w t a s st n (T t)
theorem TX.l {w : ai_H} {nt : Int} {T : Nat → Nat → List Int} (h : TX w nt T) : LW w nt := h.1
theorem TX.r {w : ai_H} {nt : Int} {T : Nat → Nat → List Int} (h : TX w nt T) : ∀ t : Nat, (t : Int) < nt → ∃ a, mP w 6 t = some a := fun t ht => by
  obtain ⟨a, s, st, n, h1⟩ := h.2 t ht
  exact ⟨a, h1.1⟩
theorem c_reckon {d : Nat} {w : ai_H} {Q : Option Value → ai_H → Prop} {nt : Int} {T : Nat → Nat → List Int} (ht : TX w nt T) {t p : Int} (h1 : 0 ≤ t) (h2 : t < nt) (h3 : 0 ≤ p) (h4 : p < 3) : Cl (d + 1) mX1_reckon [.ref 5, .int (jI t), .int (jI p)] w Q ↔ Q (some (.int (evF (fun z => mI w 5 (2 - z).toNat) (T t.toNat p.toNat)))) (msA w 7 (rnF (fun z => mI w 5 (2 - z).toNat) (T t.toNat p.toNat) 0 (mI w 7))) := by
  have hl := ht.l
  have hr := ht.r
  have lb := hl.b
  obtain ⟨a, s, st, n, q1, q2, q3, q4, q5, q6, q7, q8⟩ := ht.2 t.toNat (by omega)
  obtain ⟨p1, p2, p3, p4⟩ := q8 p.toNat (by omega)
  have n1 : ¬ (p < 0) := by omega
  have n2 : p < 3 := h4
  have n3 : b2 (0 ≤ t ∧ t < nt) = 1 := b2_t ⟨h1, h2⟩
  have n4 : 0 ≤ t := h1
  have n5 : t < 6 := by omega
  have n6 : mI w st p.toNat = jI ((vI w st p.toNat).toNat : Int) := by rw [mI_v, show ((vI w st p.toNat).toNat : Int) = vI w st p.toNat by omega]
  have hv : ai_isV st = false := by
    unfold ai_isV
    simp
    omega
  have hx : ai_isX st = false := by
    unfold ai_isX
    simp
    omega
  simp (disch := first | omega | assumption) only [eX1_reckon, sX1_reckon_0, sX1_reckon_1, sX1_reckon_2, sX1_reckon_5, sX1_reckon_8, sX1_reckon_9, sX1_reckon_12, sX1_reckon_13, sX1_reckon_14, sX1_reckon_17, sX1_reckon_18, sX1_reckon_19, sX1_reckon_22, sX1_reckon_23, sX1_reckon_26, sX1_reckon_27, sX1_reckon_28, sX1_reckon_29, sX1_reckon_32, sX1_reckon_33, sX1_reckon_34, sX1_reckon_37, sX1_reckon_38, sX1_reckon_39, sX1_reckon_41, sX1_reckon_42, sX1_reckon_45, sX1_reckon_46, sX1_reckon_47, sX1_reckon_50, sX1_reckon_51, sX1_reckon_52, c_has hl hr, hl.s, hl.p0, hl.p2, hl.s6, hl.s7, gP_iff hl.s6, q1, q2, q3, q4, q5, q6, gI_iff q6 q7.2.2.2.2.2.2.2.1, n1, n2, n3, n4, n5, n6, h3, h2, mI_msI, mI_msP, mI_msA, mP_msI, mP_msP, mP_msA, mS_msI, mS_msP, mS_msA, mN_msI, mN_msP, mN_msA, Option.toList_some, Option.toList_none, List.cons_append, List.nil_append, ai_rf_s, ai_rf_n, ai_kl_i, ai_kl_r, ai_kl_n, b2_0, b2_1, if_true, if_false, and_true, true_and, or_false, false_or, or_true, true_or, and_false, false_and, not_true_eq_false, not_false_eq_true, seval, jN, ib0, jI_add, jI_sub, jI_mul, jI_neg, jj_lt, jj_le, jj_eq, jj_div, jj_rem, jl_cl, jl_ib, q_lt_0, r_lt_0, q_le_0, r_le_0, q_eq_0, r_eq_0, q_lt_1, r_lt_1, q_le_1, r_le_1, q_eq_1, r_eq_1, q_add_1, q_sub_1, r_add_1, r_mul_1, q_mul_1, q_div_1, q_rem_1, q_lt_2, r_lt_2, q_le_2, r_le_2, q_eq_2, q_add_2, q_sub_2, r_add_2, r_mul_2, q_mul_2, q_div_2, q_rem_2, q_lt_3, r_lt_3, q_le_3, r_le_3, q_eq_3, q_add_3, q_sub_3, r_add_3, r_mul_3, q_mul_3, q_div_3, q_rem_3, q_lt_4, r_lt_4, q_le_4, r_le_4, q_eq_4, q_add_4, q_sub_4, r_add_4, r_mul_4, q_mul_4, q_div_4, q_rem_4, q_lt_5, r_lt_5, q_le_5, r_le_5, q_eq_5, q_add_5, q_sub_5, r_add_5, r_mul_5, q_mul_5, q_div_5, q_rem_5, q_lt_6, r_lt_6, q_le_6, r_le_6, q_eq_6, q_add_6, q_sub_6, r_add_6, r_mul_6, q_mul_6, q_div_6, q_rem_6, q_lt_7, r_lt_7, q_le_7, r_le_7, q_eq_7, q_add_7, q_sub_7, r_add_7, r_mul_7, q_mul_7, q_div_7, q_rem_7, q_lt_8, r_lt_8, q_le_8, r_le_8, q_eq_8, q_add_8, q_sub_8, r_add_8, r_mul_8, q_mul_8, q_div_8, q_rem_8, q_lt_9, r_lt_9, q_le_9, r_le_9, q_eq_9, q_add_9, q_sub_9, r_add_9, r_mul_9, q_mul_9, q_div_9, q_rem_9, q_lt_10, r_lt_10, q_le_10, r_le_10, q_eq_10, q_add_10, q_sub_10, r_add_10, r_mul_10, q_mul_10, q_div_10, q_rem_10, q_lt_11, r_lt_11, q_le_11, r_le_11, q_eq_11, q_add_11, q_sub_11, r_add_11, r_mul_11, q_mul_11, q_div_11, q_rem_11, q_lt_12, r_lt_12, q_le_12, r_le_12, q_eq_12, q_add_12, q_sub_12, r_add_12, r_mul_12, q_mul_12, q_div_12, q_rem_12, q_lt_13, r_lt_13, q_le_13, r_le_13, q_eq_13, q_add_13, q_sub_13, r_add_13, r_mul_13, q_mul_13, q_div_13, q_rem_13, q_lt_14, r_lt_14, q_le_14, r_le_14, q_eq_14, q_add_14, q_sub_14, r_add_14, r_mul_14, q_mul_14, q_div_14, q_rem_14, q_lt_15, r_lt_15, q_le_15, r_le_15, q_eq_15, q_add_15, q_sub_15, r_add_15, r_mul_15, q_mul_15, q_div_15, q_rem_15, q_lt_16, r_lt_16, q_le_16, r_le_16, q_eq_16, q_add_16, q_sub_16, r_add_16, r_mul_16, q_mul_16, q_div_16, q_rem_16, q_lt_17, r_lt_17, q_le_17, r_le_17, q_eq_17, q_add_17, q_sub_17, r_add_17, r_mul_17, q_mul_17, q_div_17, q_rem_17, q_lt_18, r_lt_18, q_le_18, r_le_18, q_eq_18, q_add_18, q_sub_18, r_add_18, r_mul_18, q_mul_18, q_div_18, q_rem_18, q_lt_19, r_lt_19, q_le_19, r_le_19, q_eq_19, q_add_19, q_sub_19, r_add_19, r_mul_19, q_mul_19, q_div_19, q_rem_19, q_lt_20, r_lt_20, q_le_20, r_le_20, q_eq_20, q_add_20, q_sub_20, r_add_20, r_mul_20, q_mul_20, q_div_20, q_rem_20, q_lt_32, r_lt_32, q_le_32, r_le_32, q_eq_32, q_add_32, q_sub_32, r_add_32, r_mul_32, q_mul_32, q_div_32, q_rem_32, q_lt_35, r_lt_35, q_le_35, r_le_35, q_eq_35, q_add_35, q_sub_35, r_add_35, r_mul_35, q_mul_35, q_div_35, q_rem_35, q_lt_38, r_lt_38, q_le_38, r_le_38, q_eq_38, q_add_38, q_sub_38, r_add_38, r_mul_38, q_mul_38, q_div_38, q_rem_38, q_lt_39, r_lt_39, q_le_39, r_le_39, q_eq_39, q_add_39, q_sub_39, r_add_39, r_mul_39, q_mul_39, q_div_39, q_rem_39, q_lt_40, r_lt_40, q_le_40, r_le_40, q_eq_40, q_add_40, q_sub_40, r_add_40, r_mul_40, q_mul_40, q_div_40, q_rem_40, q_lt_41, r_lt_41, q_le_41, r_le_41, q_eq_41, q_add_41, q_sub_41, r_add_41, r_mul_41, q_mul_41, q_div_41, q_rem_41, q_lt_42, r_lt_42, q_le_42, r_le_42, q_eq_42, q_add_42, q_sub_42, r_add_42, r_mul_42, q_mul_42, q_div_42, q_rem_42, q_lt_43, r_lt_43, q_le_43, r_le_43, q_eq_43, q_add_43, q_sub_43, r_add_43, r_mul_43, q_mul_43, q_div_43, q_rem_43, q_lt_45, r_lt_45, q_le_45, r_le_45, q_eq_45, q_add_45, q_sub_45, r_add_45, r_mul_45, q_mul_45, q_div_45, q_rem_45, q_lt_48, r_lt_48, q_le_48, r_le_48, q_eq_48, q_add_48, q_sub_48, r_add_48, r_mul_48, q_mul_48, q_div_48, q_rem_48, q_lt_50, r_lt_50, q_le_50, r_le_50, q_eq_50, q_add_50, q_sub_50, r_add_50, r_mul_50, q_mul_50, q_div_50, q_rem_50, q_lt_57, r_lt_57, q_le_57, r_le_57, q_eq_57, q_add_57, q_sub_57, r_add_57, r_mul_57, q_mul_57, q_div_57, q_rem_57, q_lt_59, r_lt_59, q_le_59, r_le_59, q_eq_59, q_add_59, q_sub_59, r_add_59, r_mul_59, q_mul_59, q_div_59, q_rem_59, q_lt_60, r_lt_60, q_le_60, r_le_60, q_eq_60, q_add_60, q_sub_60, r_add_60, r_mul_60, q_mul_60, q_div_60, q_rem_60, q_lt_61, r_lt_61, q_le_61, r_le_61, q_eq_61, q_add_61, q_sub_61, r_add_61, r_mul_61, q_mul_61, q_div_61, q_rem_61, q_lt_62, r_lt_62, q_le_62, r_le_62, q_eq_62, q_add_62, q_sub_62, r_add_62, r_mul_62, q_mul_62, q_div_62, q_rem_62, q_lt_64, r_lt_64, q_le_64, r_le_64, q_eq_64, q_add_64, q_sub_64, r_add_64, r_mul_64, q_mul_64, q_div_64, q_rem_64, q_lt_65, r_lt_65, q_le_65, r_le_65, q_eq_65, q_add_65, q_sub_65, r_add_65, r_mul_65, q_mul_65, q_div_65, q_rem_65, q_lt_90, r_lt_90, q_le_90, r_le_90, q_eq_90, q_add_90, q_sub_90, r_add_90, r_mul_90, q_mul_90, q_div_90, q_rem_90, q_lt_97, r_lt_97, q_le_97, r_le_97, q_eq_97, q_add_97, q_sub_97, r_add_97, r_mul_97, q_mul_97, q_div_97, q_rem_97, q_lt_99, r_lt_99, q_le_99, r_le_99, q_eq_99, q_add_99, q_sub_99, r_add_99, r_mul_99, q_mul_99, q_div_99, q_rem_99, q_lt_100, r_lt_100, q_le_100, r_le_100, q_eq_100, q_add_100, q_sub_100, r_add_100, r_mul_100, q_mul_100, q_div_100, q_rem_100, q_lt_122, r_lt_122, q_le_122, r_le_122, q_eq_122, q_add_122, q_sub_122, r_add_122, r_mul_122, q_mul_122, q_div_122, q_rem_122, q_lt_160, r_lt_160, q_le_160, r_le_160, q_eq_160, q_add_160, q_sub_160, r_add_160, r_mul_160, q_mul_160, q_div_160, q_rem_160, q_lt_200, r_lt_200, q_le_200, r_le_200, q_eq_200, q_add_200, q_sub_200, r_add_200, r_mul_200, q_mul_200, q_div_200, q_rem_200, q_lt_255, r_lt_255, q_le_255, r_le_255, q_eq_255, q_add_255, q_sub_255, r_add_255, r_mul_255, q_mul_255, q_div_255, q_rem_255, q_lt_4050, r_lt_4050, q_le_4050, r_le_4050, q_eq_4050, q_add_4050, q_sub_4050, r_add_4050, r_mul_4050, q_mul_4050, q_div_4050, q_rem_4050, q_lt_99999, r_lt_99999, q_le_99999, r_le_99999, q_eq_99999, q_add_99999, q_sub_99999, r_add_99999, r_mul_99999, q_mul_99999, q_div_99999, q_rem_99999, q_lt_100000, r_lt_100000, q_le_100000, r_le_100000, q_eq_100000, q_add_100000, q_sub_100000, r_add_100000, r_mul_100000, q_mul_100000, q_div_100000, q_rem_100000, q_lt_m1, r_lt_m1, q_le_m1, r_le_m1, q_eq_m1, r_eq_m1, q_add_m1, q_lt_m2, r_lt_m2, q_le_m2, r_le_m2, q_eq_m2, q_add_m2, q_lt_m3, r_lt_m3, q_le_m3, r_le_m3, q_eq_m3, q_add_m3, q_lt_m4, r_lt_m4, q_le_m4, r_le_m4, q_eq_m4, q_add_m4, q_lt_m5, r_lt_m5, q_le_m5, r_le_m5, q_eq_m5, q_add_m5, q_lt_m6, r_lt_m6, q_le_m6, r_le_m6, q_eq_m6, q_add_m6, q_lt_m7, r_lt_m7, q_le_m7, r_le_m7, q_eq_m7, q_add_m7, q_lt_m8, r_lt_m8, q_le_m8, r_le_m8, q_eq_m8, q_add_m8, q_lt_m9, r_lt_m9, q_le_m9, r_le_m9, q_eq_m9, q_add_m9, q_lt_m10, r_lt_m10, q_le_m10, r_le_m10, q_eq_m10, q_add_m10, q_lt_m11, r_lt_m11, q_le_m11, r_le_m11, q_eq_m11, q_add_m11, q_lt_m12, r_lt_m12, q_le_m12, r_le_m12, q_eq_m12, q_add_m12, q_lt_m13, r_lt_m13, q_le_m13, r_le_m13, q_eq_m13, q_add_m13, q_lt_m14, r_lt_m14, q_le_m14, r_le_m14, q_eq_m14, q_add_m14, q_lt_m15, r_lt_m15, q_le_m15, r_le_m15, q_eq_m15, q_add_m15, q_lt_m16, r_lt_m16, q_le_m16, r_le_m16, q_eq_m16, q_add_m16, q_lt_m17, r_lt_m17, q_le_m17, r_le_m17, q_eq_m17, q_add_m17, q_lt_m18, r_lt_m18, q_le_m18, r_le_m18, q_eq_m18, q_add_m18, q_lt_m19, r_lt_m19, q_le_m19, r_le_m19, q_eq_m19, q_add_m19, q_lt_m100, r_lt_m100, q_le_m100, r_le_m100, q_eq_m100, q_add_m100, q_lt_m99, r_lt_m99, q_le_m99, r_le_m99, q_eq_m99, q_add_m99]
  have h9 := rk_loop hl q5 ⟨q7.1, q7.2.1, q7.2.2.1, q7.2.2.2.1, q7.2.2.2.2.2.2.2.2⟩ (d := d) (Q := Q) (a1 := some (.int (jI t))) (a2 := some (.int (jI p))) (T t.toNat p.toNat) 0 (vI w st p.toNat).toNat (mI w 7) none p1 (by omega) (by omega) p4
  rw [msA_self, evF_eq p1, show jI ((0 : Nat) : Int) = 0 from rfl] at h9
  exact h9
theorem PO.i1 {w : ai_H} {p : Nat} {g : Nat → Int} (h : PO w p g) : mI w p 1 = jI (g 0) := by rw [mI_v, h.v1]
theorem PO.i2 {w : ai_H} {p : Nat} {g : Nat → Int} (h : PO w p g) : mI w p 2 = jI (g 1) := by rw [mI_v, h.v2]
theorem PO.i3 {w : ai_H} {p : Nat} {g : Nat → Int} (h : PO w p g) : mI w p 3 = jI (g 2) := by rw [mI_v, h.v3]
theorem PO.i5 {w : ai_H} {p : Nat} {g : Nat → Int} (h : PO w p g) : mI w p 5 = jI (g 3) := by rw [mI_v, h.v5]
theorem PO.i6 {w : ai_H} {p : Nat} {g : Nat → Int} (h : PO w p g) : mI w p 6 = jI (g 4) := by rw [mI_v, h.v6]
theorem PO.ikd {w : ai_H} {p : Nat} {g : Nat → Int} (h : PO w p g) {e : Int} (h0 : 0 ≤ e) (h1 : e < g 3) : mI w (p + 1) e.toNat = jI (g (10 + e.toNat)) := by rw [mI_v, h.kd h0 h1]
theorem PO.imo {w : ai_H} {p : Nat} {g : Nat → Int} (h : PO w p g) {e : Int} (h0 : 0 ≤ e) (h1 : e < g 3) : mI w (p + 2) e.toNat = jI (g (20 + e.toNat)) := by rw [mI_v, h.mo h0 h1]
theorem PO.iwi {w : ai_H} {p : Nat} {g : Nat → Int} (h : PO w p g) {e : Int} (h0 : 0 ≤ e) (h1 : e < g 3) : mI w (p + 3) e.toNat = jI (g (30 + e.toNat)) := by rw [mI_v, h.wi h0 h1]
theorem PO.ila {w : ai_H} {p : Nat} {g : Nat → Int} (h : PO w p g) {e : Int} (h0 : 0 ≤ e) (h1 : e < g 3) : mI w (p + 4) e.toNat = jI (g (40 + e.toNat)) := by rw [mI_v, h.la h0 h1]
theorem PG.ne {w : ai_H} {p : Nat} (h : PG w p) : ¬ p = 5 ∧ ¬ p + 1 = 5 ∧ ¬ p + 2 = 5 ∧ ¬ p + 3 = 5 ∧ ¬ p + 4 = 5 ∧ ¬ p + 5 = 5 ∧ ¬ p = 7 ∧ ¬ p + 1 = 7 ∧ ¬ p + 2 = 7 ∧ ¬ p + 3 = 7 ∧ ¬ p + 4 = 7 ∧ ¬ p + 5 = 7 := by
  have h1 := h.lo
  refine ⟨?_, ?_, ?_, ?_, ?_, ?_, ?_, ?_, ?_, ?_, ?_, ?_⟩ <;> omega
/-! the scratch that asking a law leaves: the class's names and values, the model's -/
def nS (i k : Nat) : Prop := ¬ (i = 5 ∧ 3 ≤ k) ∧ ¬ i = 7 ∧ ¬ i = 63 ∧ ¬ i = 64
def Sx (w w' : ai_H) : Prop := w'.2 = w.2 ∧ ∀ i k, nS i k → mI w' i k = mI w i k
theorem Sx.refl (w : ai_H) : Sx w w := ⟨rfl, fun _ _ _ => rfl⟩
theorem Sx.trans {a b c : ai_H} (h1 : Sx a b) (h2 : Sx b c) : Sx a c := ⟨h2.1.trans h1.1, fun i k h => (h2.2 i k h).trans (h1.2 i k h)⟩
theorem Sx.m5 {w w' : ai_H} (h : Sx w w') {k : Nat} {x : Int32} (hk : 3 ≤ k) : Sx w (msI w' 5 k x) := ⟨h.1, fun i j hn => by
  rw [mI_msI, if_neg (fun hc => hn.1 ⟨hc.1, by omega⟩)]
  exact h.2 i j hn⟩
theorem Sx.a7 {w w' : ai_H} (h : Sx w w') {f : Nat → Int32} : Sx w (msA w' 7 f) := ⟨h.1, fun i j hn => by
  rw [mI_msA, if_neg hn.2.1]
  exact h.2 i j hn⟩
theorem Sx.p {w w' : ai_H} (h : Sx w w') (i k : Nat) : mP w' i k = mP w i k := by
  unfold mP
  rw [h.1]
theorem Sx.s {w w' : ai_H} (h : Sx w w') (i : Nat) : mS w' i = mS w i := by
  unfold mS
  rw [h.1]
theorem Sx.n {w w' : ai_H} (h : Sx w w') : mN w' = mN w := by
  unfold mN
  rw [h.1]
theorem Sx.v {w w' : ai_H} (h : Sx w w') {i k : Nat} (hn : nS i k) : vI w' i k = vI w i k := by
  unfold vI
  rw [h.2 i k hn]
theorem nS_pos {i k : Nat} (h : 8 ≤ i) (h2 : i ≤ 62) : nS i k := ⟨by omega, by omega, by omega, by omega⟩
theorem PO.sx {w w' : ai_H} {p : Nat} {g : Nat → Int} (h : PO w p g) (hx : Sx w w') : PO w' p g := by
  have h1 := h.pg.lo
  have h2 := h.pg.hi
  have h3 := h.pg
  obtain ⟨k1, k2, k3, k4⟩ := h
  refine ⟨?_, k2, ?_, ?_⟩
  · unfold PG
    simp only [hx.p, hx.s]
    exact h3
  · simp (disch := omega) only [hx.v (nS_pos _ _)]
    exact k3
  · intro e he
    have := k4 e he
    unfold PE at this ⊢
    simp (disch := omega) only [hx.v (nS_pos _ _)]
    exact this
theorem TX.sx {w w' : ai_H} {nt : Int} {T : Nat → Nat → List Int} (h : TX w nt T) (hx : Sx w w') : TX w' nt T := by
  obtain ⟨⟨l1, l2, l3, l4, l5, l6, l7⟩, h2⟩ := h
  refine ⟨⟨?_, ?_, ?_, ?_, ?_, ?_, l7⟩, ?_⟩
  · rw [hx.s]; exact l1
  · rw [hx.p]; exact l2
  · rw [hx.p]; exact l3
  · rw [hx.s]; exact l4
  · rw [hx.s]; exact l5
  · rw [hx.v ⟨by omega, by omega, by omega, by omega⟩]; exact l6
  · intro t ht
    obtain ⟨a, s, st, n, q1, q2, q3, q4, q5, q6, q7, q8⟩ := h2 t ht
    have ns : ∀ k, nS s k := fun k => ⟨by omega, by omega, by omega, by omega⟩
    have nt : ∀ k, nS st k := fun k => ⟨by omega, by omega, by omega, by omega⟩
    refine ⟨a, s, st, n, ?_, ?_, ?_, ?_, ?_, ?_, q7, ?_⟩
    · rw [hx.p]; exact q1
    · rw [hx.s]; exact q2
    · rw [hx.p]; exact q3
    · rw [hx.p]; exact q4
    · rw [hx.s]; exact q5
    · rw [hx.s]; exact q6
    · intro p hp
      have := q8 p hp
      unfold TXs at this ⊢
      simp only [hx.v (nt _), hx.v (ns _)]
      exact this
