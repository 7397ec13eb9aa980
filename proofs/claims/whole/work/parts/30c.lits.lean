/-! printed by wip/gen/lits.py: comparisons and sums of jI and of written numbers -/
theorem jn_lit (n : Nat) : (-(OfNat.ofNat n : Int32)) = jI (-(OfNat.ofNat n : Int)) := by rw [jI_lit, jI_neg]
theorem lit_iR {n : Nat} (h : n < 2147483648) : iR (OfNat.ofNat n : Int) := by
  have e : (OfNat.ofNat n : Int) = (n : Int) := rfl
  unfold iR
  rw [e]
  omega
theorem lit_niR {n : Nat} (h : n < 2147483648) : iR (-(OfNat.ofNat n : Int)) := by
  have e : (OfNat.ofNat n : Int) = (n : Int) := rfl
  unfold iR
  rw [e]
  omega
theorem jj_lt {a b : Int} (h1 : -2147483648 ≤ a) (h2 : a < 2147483648) (h3 : -2147483648 ≤ b) (h4 : b < 2147483648) : jI a < jI b ↔ a < b := jI_lt ⟨h1, h2⟩ ⟨h3, h4⟩
theorem jl_lt {a : Int} {n : Nat} (h1 : -2147483648 ≤ a) (h2 : a < 2147483648) (hn : n < 2147483648) : jI a < (OfNat.ofNat n : Int32) ↔ a < (OfNat.ofNat n : Int) := by rw [jI_lit]; exact jI_lt ⟨h1, h2⟩ (lit_iR hn)
theorem lj_lt {a : Int} {n : Nat} (h1 : -2147483648 ≤ a) (h2 : a < 2147483648) (hn : n < 2147483648) : (OfNat.ofNat n : Int32) < jI a ↔ (OfNat.ofNat n : Int) < a := by rw [jI_lit]; exact jI_lt (lit_iR hn) ⟨h1, h2⟩
theorem jn_lt {a : Int} {n : Nat} (h1 : -2147483648 ≤ a) (h2 : a < 2147483648) (hn : n < 2147483648) : jI a < -(OfNat.ofNat n : Int32) ↔ a < -(OfNat.ofNat n : Int) := by rw [jn_lit]; exact jI_lt ⟨h1, h2⟩ (lit_niR hn)
theorem nj_lt {a : Int} {n : Nat} (h1 : -2147483648 ≤ a) (h2 : a < 2147483648) (hn : n < 2147483648) : -(OfNat.ofNat n : Int32) < jI a ↔ -(OfNat.ofNat n : Int) < a := by rw [jn_lit]; exact jI_lt (lit_niR hn) ⟨h1, h2⟩
theorem jj_le {a b : Int} (h1 : -2147483648 ≤ a) (h2 : a < 2147483648) (h3 : -2147483648 ≤ b) (h4 : b < 2147483648) : jI a ≤ jI b ↔ a ≤ b := jI_le ⟨h1, h2⟩ ⟨h3, h4⟩
theorem jl_le {a : Int} {n : Nat} (h1 : -2147483648 ≤ a) (h2 : a < 2147483648) (hn : n < 2147483648) : jI a ≤ (OfNat.ofNat n : Int32) ↔ a ≤ (OfNat.ofNat n : Int) := by rw [jI_lit]; exact jI_le ⟨h1, h2⟩ (lit_iR hn)
theorem lj_le {a : Int} {n : Nat} (h1 : -2147483648 ≤ a) (h2 : a < 2147483648) (hn : n < 2147483648) : (OfNat.ofNat n : Int32) ≤ jI a ↔ (OfNat.ofNat n : Int) ≤ a := by rw [jI_lit]; exact jI_le (lit_iR hn) ⟨h1, h2⟩
theorem jn_le {a : Int} {n : Nat} (h1 : -2147483648 ≤ a) (h2 : a < 2147483648) (hn : n < 2147483648) : jI a ≤ -(OfNat.ofNat n : Int32) ↔ a ≤ -(OfNat.ofNat n : Int) := by rw [jn_lit]; exact jI_le ⟨h1, h2⟩ (lit_niR hn)
theorem nj_le {a : Int} {n : Nat} (h1 : -2147483648 ≤ a) (h2 : a < 2147483648) (hn : n < 2147483648) : -(OfNat.ofNat n : Int32) ≤ jI a ↔ -(OfNat.ofNat n : Int) ≤ a := by rw [jn_lit]; exact jI_le (lit_niR hn) ⟨h1, h2⟩
theorem jj_eq {a b : Int} (h1 : -2147483648 ≤ a) (h2 : a < 2147483648) (h3 : -2147483648 ≤ b) (h4 : b < 2147483648) : jI a = jI b ↔ a = b := jI_eq ⟨h1, h2⟩ ⟨h3, h4⟩
theorem jl_eq {a : Int} {n : Nat} (h1 : -2147483648 ≤ a) (h2 : a < 2147483648) (hn : n < 2147483648) : jI a = (OfNat.ofNat n : Int32) ↔ a = (OfNat.ofNat n : Int) := by rw [jI_lit]; exact jI_eq ⟨h1, h2⟩ (lit_iR hn)
theorem lj_eq {a : Int} {n : Nat} (h1 : -2147483648 ≤ a) (h2 : a < 2147483648) (hn : n < 2147483648) : (OfNat.ofNat n : Int32) = jI a ↔ (OfNat.ofNat n : Int) = a := by rw [jI_lit]; exact jI_eq (lit_iR hn) ⟨h1, h2⟩
theorem jn_eq {a : Int} {n : Nat} (h1 : -2147483648 ≤ a) (h2 : a < 2147483648) (hn : n < 2147483648) : jI a = -(OfNat.ofNat n : Int32) ↔ a = -(OfNat.ofNat n : Int) := by rw [jn_lit]; exact jI_eq ⟨h1, h2⟩ (lit_niR hn)
theorem nj_eq {a : Int} {n : Nat} (h1 : -2147483648 ≤ a) (h2 : a < 2147483648) (hn : n < 2147483648) : -(OfNat.ofNat n : Int32) = jI a ↔ -(OfNat.ofNat n : Int) = a := by rw [jn_lit]; exact jI_eq (lit_niR hn) ⟨h1, h2⟩
theorem jl_add {a : Int} {n : Nat} : jI a + (OfNat.ofNat n : Int32) = jI (a + (OfNat.ofNat n : Int)) := by rw [jI_lit]; exact jI_add a _
theorem lj_add {a : Int} {n : Nat} : (OfNat.ofNat n : Int32) + jI a = jI ((OfNat.ofNat n : Int) + a) := by rw [jI_lit]; exact jI_add _ a
theorem jn_add {a : Int} {n : Nat} : jI a + -(OfNat.ofNat n : Int32) = jI (a + -(OfNat.ofNat n : Int)) := by rw [jn_lit]; exact jI_add a _
theorem jl_sub {a : Int} {n : Nat} : jI a - (OfNat.ofNat n : Int32) = jI (a - (OfNat.ofNat n : Int)) := by rw [jI_lit]; exact jI_sub a _
theorem lj_sub {a : Int} {n : Nat} : (OfNat.ofNat n : Int32) - jI a = jI ((OfNat.ofNat n : Int) - a) := by rw [jI_lit]; exact jI_sub _ a
theorem jn_sub {a : Int} {n : Nat} : jI a - -(OfNat.ofNat n : Int32) = jI (a - -(OfNat.ofNat n : Int)) := by rw [jn_lit]; exact jI_sub a _
theorem jl_mul {a : Int} {n : Nat} : jI a * (OfNat.ofNat n : Int32) = jI (a * (OfNat.ofNat n : Int)) := by rw [jI_lit]; exact jI_mul a _
theorem lj_mul {a : Int} {n : Nat} : (OfNat.ofNat n : Int32) * jI a = jI ((OfNat.ofNat n : Int) * a) := by rw [jI_lit]; exact jI_mul _ a
theorem jn_mul {a : Int} {n : Nat} : jI a * -(OfNat.ofNat n : Int32) = jI (a * -(OfNat.ofNat n : Int)) := by rw [jn_lit]; exact jI_mul a _
theorem jj_div {a b : Int} (h1 : -2147483648 ≤ a) (h2 : a < 2147483648) (h3 : -2147483648 ≤ b) (h4 : b < 2147483648) (h5 : b ≠ -1) : jI a / jI b = jI (a.tdiv b) := jI_div ⟨h1, h2⟩ ⟨h3, h4⟩ (fun z => h5 z.2)
theorem jj_rem {a b : Int} (h1 : -2147483648 ≤ a) (h2 : a < 2147483648) (h3 : -2147483648 ≤ b) (h4 : b < 2147483648) (h5 : b ≠ -1) : ai_rem (jI a) (jI b) = jI (a.tmod b) := jI_rem ⟨h1, h2⟩ ⟨h3, h4⟩ (fun z => h5 z.2)
theorem jl_div {a : Int} {n : Nat} (h1 : -2147483648 ≤ a) (h2 : a < 2147483648) (hn : n < 2147483648) : jI a / (OfNat.ofNat n : Int32) = jI (a.tdiv (OfNat.ofNat n : Int)) := by
  rw [jI_lit]
  have e : (OfNat.ofNat n : Int) = (n : Int) := rfl
  exact jI_div ⟨h1, h2⟩ (lit_iR hn) (by rw [e]; omega)
theorem jl_rem {a : Int} {n : Nat} (h1 : -2147483648 ≤ a) (h2 : a < 2147483648) (hn : n < 2147483648) : ai_rem (jI a) (OfNat.ofNat n : Int32) = jI (a.tmod (OfNat.ofNat n : Int)) := by
  rw [jI_lit]
  have e : (OfNat.ofNat n : Int) = (n : Int) := rfl
  exact jI_rem ⟨h1, h2⟩ (lit_iR hn) (by rw [e]; omega)
theorem jl_cl {a : Int} (h1 : -2147483648 ≤ a) (h2 : a < 2147483648) : (jI a).toNatClampNeg = a.toNat := jI_cl ⟨h1, h2⟩
theorem jl_ib {a : Int} {n : Nat} (h1 : -2147483648 ≤ a) (h2 : a < 2147483648) : ai_ib (jI a) n = true ↔ 0 ≤ a ∧ a < n := jI_ib ⟨h1, h2⟩ n
theorem gI_iff {w : ai_H} {a n : Nat} {j : Int32} (h : mS w a = (2, n)) (ha : a < 1000000) : gI w a j ↔ ai_ib j n = true := by
  unfold gI
  rw [h]
  have h2 : ai_isX a = false := by unfold ai_isX; exact decide_eq_false (by omega)
  simp [h2]
theorem gJ_iff {w : ai_H} {a n : Nat} {j : Int32} (h : mS w a = (2, n)) : gJ w a j ↔ ai_ib j n = true := by
  unfold gJ
  rw [h]
  simp
theorem gZ_iff {w : ai_H} {a n : Nat} {j : Int32} (h : mS w a = (3, n)) : gZ w a j ↔ ai_ib j n = true := by
  unfold gZ
  rw [h]
  simp
theorem isV_no {a : Nat} (h : a < 1000000) : ai_isV a = false := by
  unfold ai_isV
  rw [decide_eq_false (show ¬ 1000100 ≤ a by omega)]
  rfl
theorem isX_no {a : Nat} (h : a < 1000000) : ai_isX a = false := by
  unfold ai_isX
  exact decide_eq_false (by omega)
theorem vI_lo (w : ai_H) (i k : Nat) : -2147483648 ≤ vI w i k := (vI_iR w i k).1
theorem vI_hi (w : ai_H) (i k : Nat) : vI w i k < 2147483648 := (vI_iR w i k).2
theorem q_lt_0 {a : Int} (h1 : -2147483648 ≤ a) (h2 : a < 2147483648) : jI a < (0 : Int32) ↔ a < 0 := by rw [show (0 : Int32) = jI 0 from jI_lit 0]; exact jI_lt ⟨h1, h2⟩ ⟨by decide, by decide⟩
theorem r_lt_0 {a : Int} (h1 : -2147483648 ≤ a) (h2 : a < 2147483648) : (0 : Int32) < jI a ↔ 0 < a := by rw [show (0 : Int32) = jI 0 from jI_lit 0]; exact jI_lt ⟨by decide, by decide⟩ ⟨h1, h2⟩
theorem q_le_0 {a : Int} (h1 : -2147483648 ≤ a) (h2 : a < 2147483648) : jI a ≤ (0 : Int32) ↔ a ≤ 0 := by rw [show (0 : Int32) = jI 0 from jI_lit 0]; exact jI_le ⟨h1, h2⟩ ⟨by decide, by decide⟩
theorem r_le_0 {a : Int} (h1 : -2147483648 ≤ a) (h2 : a < 2147483648) : (0 : Int32) ≤ jI a ↔ 0 ≤ a := by rw [show (0 : Int32) = jI 0 from jI_lit 0]; exact jI_le ⟨by decide, by decide⟩ ⟨h1, h2⟩
theorem q_eq_0 {a : Int} (h1 : -2147483648 ≤ a) (h2 : a < 2147483648) : jI a = (0 : Int32) ↔ a = 0 := by rw [show (0 : Int32) = jI 0 from jI_lit 0]; exact jI_eq ⟨h1, h2⟩ ⟨by decide, by decide⟩
theorem r_eq_0 {a : Int} (h1 : -2147483648 ≤ a) (h2 : a < 2147483648) : (0 : Int32) = jI a ↔ 0 = a := by rw [show (0 : Int32) = jI 0 from jI_lit 0]; exact jI_eq ⟨by decide, by decide⟩ ⟨h1, h2⟩
theorem q_lt_1 {a : Int} (h1 : -2147483648 ≤ a) (h2 : a < 2147483648) : jI a < (1 : Int32) ↔ a < 1 := by rw [show (1 : Int32) = jI 1 from jI_lit 1]; exact jI_lt ⟨h1, h2⟩ ⟨by decide, by decide⟩
theorem r_lt_1 {a : Int} (h1 : -2147483648 ≤ a) (h2 : a < 2147483648) : (1 : Int32) < jI a ↔ 1 < a := by rw [show (1 : Int32) = jI 1 from jI_lit 1]; exact jI_lt ⟨by decide, by decide⟩ ⟨h1, h2⟩
theorem q_le_1 {a : Int} (h1 : -2147483648 ≤ a) (h2 : a < 2147483648) : jI a ≤ (1 : Int32) ↔ a ≤ 1 := by rw [show (1 : Int32) = jI 1 from jI_lit 1]; exact jI_le ⟨h1, h2⟩ ⟨by decide, by decide⟩
theorem r_le_1 {a : Int} (h1 : -2147483648 ≤ a) (h2 : a < 2147483648) : (1 : Int32) ≤ jI a ↔ 1 ≤ a := by rw [show (1 : Int32) = jI 1 from jI_lit 1]; exact jI_le ⟨by decide, by decide⟩ ⟨h1, h2⟩
theorem q_eq_1 {a : Int} (h1 : -2147483648 ≤ a) (h2 : a < 2147483648) : jI a = (1 : Int32) ↔ a = 1 := by rw [show (1 : Int32) = jI 1 from jI_lit 1]; exact jI_eq ⟨h1, h2⟩ ⟨by decide, by decide⟩
theorem r_eq_1 {a : Int} (h1 : -2147483648 ≤ a) (h2 : a < 2147483648) : (1 : Int32) = jI a ↔ 1 = a := by rw [show (1 : Int32) = jI 1 from jI_lit 1]; exact jI_eq ⟨by decide, by decide⟩ ⟨h1, h2⟩
theorem q_add_1 {a : Int} : jI a + (1 : Int32) = jI (a + 1) := by rw [show (1 : Int32) = jI 1 from jI_lit 1]; exact jI_add a 1
theorem q_sub_1 {a : Int} : jI a - (1 : Int32) = jI (a - 1) := by rw [show (1 : Int32) = jI 1 from jI_lit 1]; exact jI_sub a 1
theorem r_add_1 {a : Int} : (1 : Int32) + jI a = jI (1 + a) := by rw [show (1 : Int32) = jI 1 from jI_lit 1]; exact jI_add 1 a
theorem r_mul_1 {a : Int} : (1 : Int32) * jI a = jI (1 * a) := by rw [show (1 : Int32) = jI 1 from jI_lit 1]; exact jI_mul 1 a
theorem q_mul_1 {a : Int} : jI a * (1 : Int32) = jI (a * 1) := by rw [show (1 : Int32) = jI 1 from jI_lit 1]; exact jI_mul a 1
theorem q_div_1 {a : Int} (h1 : -2147483648 ≤ a) (h2 : a < 2147483648) : jI a / (1 : Int32) = jI (a.tdiv 1) := by rw [show (1 : Int32) = jI 1 from jI_lit 1]; exact jI_div ⟨h1, h2⟩ ⟨by decide, by decide⟩ (by omega)
theorem q_rem_1 {a : Int} (h1 : -2147483648 ≤ a) (h2 : a < 2147483648) : ai_rem (jI a) (1 : Int32) = jI (a.tmod 1) := by rw [show (1 : Int32) = jI 1 from jI_lit 1]; exact jI_rem ⟨h1, h2⟩ ⟨by decide, by decide⟩ (by omega)
theorem q_lt_2 {a : Int} (h1 : -2147483648 ≤ a) (h2 : a < 2147483648) : jI a < (2 : Int32) ↔ a < 2 := by rw [show (2 : Int32) = jI 2 from jI_lit 2]; exact jI_lt ⟨h1, h2⟩ ⟨by decide, by decide⟩
theorem r_lt_2 {a : Int} (h1 : -2147483648 ≤ a) (h2 : a < 2147483648) : (2 : Int32) < jI a ↔ 2 < a := by rw [show (2 : Int32) = jI 2 from jI_lit 2]; exact jI_lt ⟨by decide, by decide⟩ ⟨h1, h2⟩
theorem q_le_2 {a : Int} (h1 : -2147483648 ≤ a) (h2 : a < 2147483648) : jI a ≤ (2 : Int32) ↔ a ≤ 2 := by rw [show (2 : Int32) = jI 2 from jI_lit 2]; exact jI_le ⟨h1, h2⟩ ⟨by decide, by decide⟩
theorem r_le_2 {a : Int} (h1 : -2147483648 ≤ a) (h2 : a < 2147483648) : (2 : Int32) ≤ jI a ↔ 2 ≤ a := by rw [show (2 : Int32) = jI 2 from jI_lit 2]; exact jI_le ⟨by decide, by decide⟩ ⟨h1, h2⟩
theorem q_eq_2 {a : Int} (h1 : -2147483648 ≤ a) (h2 : a < 2147483648) : jI a = (2 : Int32) ↔ a = 2 := by rw [show (2 : Int32) = jI 2 from jI_lit 2]; exact jI_eq ⟨h1, h2⟩ ⟨by decide, by decide⟩
theorem q_add_2 {a : Int} : jI a + (2 : Int32) = jI (a + 2) := by rw [show (2 : Int32) = jI 2 from jI_lit 2]; exact jI_add a 2
theorem q_sub_2 {a : Int} : jI a - (2 : Int32) = jI (a - 2) := by rw [show (2 : Int32) = jI 2 from jI_lit 2]; exact jI_sub a 2
theorem r_add_2 {a : Int} : (2 : Int32) + jI a = jI (2 + a) := by rw [show (2 : Int32) = jI 2 from jI_lit 2]; exact jI_add 2 a
theorem r_mul_2 {a : Int} : (2 : Int32) * jI a = jI (2 * a) := by rw [show (2 : Int32) = jI 2 from jI_lit 2]; exact jI_mul 2 a
theorem q_mul_2 {a : Int} : jI a * (2 : Int32) = jI (a * 2) := by rw [show (2 : Int32) = jI 2 from jI_lit 2]; exact jI_mul a 2
theorem q_div_2 {a : Int} (h1 : -2147483648 ≤ a) (h2 : a < 2147483648) : jI a / (2 : Int32) = jI (a.tdiv 2) := by rw [show (2 : Int32) = jI 2 from jI_lit 2]; exact jI_div ⟨h1, h2⟩ ⟨by decide, by decide⟩ (by omega)
theorem q_rem_2 {a : Int} (h1 : -2147483648 ≤ a) (h2 : a < 2147483648) : ai_rem (jI a) (2 : Int32) = jI (a.tmod 2) := by rw [show (2 : Int32) = jI 2 from jI_lit 2]; exact jI_rem ⟨h1, h2⟩ ⟨by decide, by decide⟩ (by omega)
theorem q_lt_3 {a : Int} (h1 : -2147483648 ≤ a) (h2 : a < 2147483648) : jI a < (3 : Int32) ↔ a < 3 := by rw [show (3 : Int32) = jI 3 from jI_lit 3]; exact jI_lt ⟨h1, h2⟩ ⟨by decide, by decide⟩
theorem r_lt_3 {a : Int} (h1 : -2147483648 ≤ a) (h2 : a < 2147483648) : (3 : Int32) < jI a ↔ 3 < a := by rw [show (3 : Int32) = jI 3 from jI_lit 3]; exact jI_lt ⟨by decide, by decide⟩ ⟨h1, h2⟩
theorem q_le_3 {a : Int} (h1 : -2147483648 ≤ a) (h2 : a < 2147483648) : jI a ≤ (3 : Int32) ↔ a ≤ 3 := by rw [show (3 : Int32) = jI 3 from jI_lit 3]; exact jI_le ⟨h1, h2⟩ ⟨by decide, by decide⟩
theorem r_le_3 {a : Int} (h1 : -2147483648 ≤ a) (h2 : a < 2147483648) : (3 : Int32) ≤ jI a ↔ 3 ≤ a := by rw [show (3 : Int32) = jI 3 from jI_lit 3]; exact jI_le ⟨by decide, by decide⟩ ⟨h1, h2⟩
theorem q_eq_3 {a : Int} (h1 : -2147483648 ≤ a) (h2 : a < 2147483648) : jI a = (3 : Int32) ↔ a = 3 := by rw [show (3 : Int32) = jI 3 from jI_lit 3]; exact jI_eq ⟨h1, h2⟩ ⟨by decide, by decide⟩
theorem q_add_3 {a : Int} : jI a + (3 : Int32) = jI (a + 3) := by rw [show (3 : Int32) = jI 3 from jI_lit 3]; exact jI_add a 3
theorem q_sub_3 {a : Int} : jI a - (3 : Int32) = jI (a - 3) := by rw [show (3 : Int32) = jI 3 from jI_lit 3]; exact jI_sub a 3
theorem r_add_3 {a : Int} : (3 : Int32) + jI a = jI (3 + a) := by rw [show (3 : Int32) = jI 3 from jI_lit 3]; exact jI_add 3 a
theorem r_mul_3 {a : Int} : (3 : Int32) * jI a = jI (3 * a) := by rw [show (3 : Int32) = jI 3 from jI_lit 3]; exact jI_mul 3 a
theorem q_mul_3 {a : Int} : jI a * (3 : Int32) = jI (a * 3) := by rw [show (3 : Int32) = jI 3 from jI_lit 3]; exact jI_mul a 3
theorem q_div_3 {a : Int} (h1 : -2147483648 ≤ a) (h2 : a < 2147483648) : jI a / (3 : Int32) = jI (a.tdiv 3) := by rw [show (3 : Int32) = jI 3 from jI_lit 3]; exact jI_div ⟨h1, h2⟩ ⟨by decide, by decide⟩ (by omega)
theorem q_rem_3 {a : Int} (h1 : -2147483648 ≤ a) (h2 : a < 2147483648) : ai_rem (jI a) (3 : Int32) = jI (a.tmod 3) := by rw [show (3 : Int32) = jI 3 from jI_lit 3]; exact jI_rem ⟨h1, h2⟩ ⟨by decide, by decide⟩ (by omega)
theorem q_lt_4 {a : Int} (h1 : -2147483648 ≤ a) (h2 : a < 2147483648) : jI a < (4 : Int32) ↔ a < 4 := by rw [show (4 : Int32) = jI 4 from jI_lit 4]; exact jI_lt ⟨h1, h2⟩ ⟨by decide, by decide⟩
theorem r_lt_4 {a : Int} (h1 : -2147483648 ≤ a) (h2 : a < 2147483648) : (4 : Int32) < jI a ↔ 4 < a := by rw [show (4 : Int32) = jI 4 from jI_lit 4]; exact jI_lt ⟨by decide, by decide⟩ ⟨h1, h2⟩
theorem q_le_4 {a : Int} (h1 : -2147483648 ≤ a) (h2 : a < 2147483648) : jI a ≤ (4 : Int32) ↔ a ≤ 4 := by rw [show (4 : Int32) = jI 4 from jI_lit 4]; exact jI_le ⟨h1, h2⟩ ⟨by decide, by decide⟩
theorem r_le_4 {a : Int} (h1 : -2147483648 ≤ a) (h2 : a < 2147483648) : (4 : Int32) ≤ jI a ↔ 4 ≤ a := by rw [show (4 : Int32) = jI 4 from jI_lit 4]; exact jI_le ⟨by decide, by decide⟩ ⟨h1, h2⟩
theorem q_eq_4 {a : Int} (h1 : -2147483648 ≤ a) (h2 : a < 2147483648) : jI a = (4 : Int32) ↔ a = 4 := by rw [show (4 : Int32) = jI 4 from jI_lit 4]; exact jI_eq ⟨h1, h2⟩ ⟨by decide, by decide⟩
theorem q_add_4 {a : Int} : jI a + (4 : Int32) = jI (a + 4) := by rw [show (4 : Int32) = jI 4 from jI_lit 4]; exact jI_add a 4
theorem q_sub_4 {a : Int} : jI a - (4 : Int32) = jI (a - 4) := by rw [show (4 : Int32) = jI 4 from jI_lit 4]; exact jI_sub a 4
theorem r_add_4 {a : Int} : (4 : Int32) + jI a = jI (4 + a) := by rw [show (4 : Int32) = jI 4 from jI_lit 4]; exact jI_add 4 a
theorem r_mul_4 {a : Int} : (4 : Int32) * jI a = jI (4 * a) := by rw [show (4 : Int32) = jI 4 from jI_lit 4]; exact jI_mul 4 a
theorem q_mul_4 {a : Int} : jI a * (4 : Int32) = jI (a * 4) := by rw [show (4 : Int32) = jI 4 from jI_lit 4]; exact jI_mul a 4
theorem q_div_4 {a : Int} (h1 : -2147483648 ≤ a) (h2 : a < 2147483648) : jI a / (4 : Int32) = jI (a.tdiv 4) := by rw [show (4 : Int32) = jI 4 from jI_lit 4]; exact jI_div ⟨h1, h2⟩ ⟨by decide, by decide⟩ (by omega)
theorem q_rem_4 {a : Int} (h1 : -2147483648 ≤ a) (h2 : a < 2147483648) : ai_rem (jI a) (4 : Int32) = jI (a.tmod 4) := by rw [show (4 : Int32) = jI 4 from jI_lit 4]; exact jI_rem ⟨h1, h2⟩ ⟨by decide, by decide⟩ (by omega)
theorem q_lt_5 {a : Int} (h1 : -2147483648 ≤ a) (h2 : a < 2147483648) : jI a < (5 : Int32) ↔ a < 5 := by rw [show (5 : Int32) = jI 5 from jI_lit 5]; exact jI_lt ⟨h1, h2⟩ ⟨by decide, by decide⟩
theorem r_lt_5 {a : Int} (h1 : -2147483648 ≤ a) (h2 : a < 2147483648) : (5 : Int32) < jI a ↔ 5 < a := by rw [show (5 : Int32) = jI 5 from jI_lit 5]; exact jI_lt ⟨by decide, by decide⟩ ⟨h1, h2⟩
theorem q_le_5 {a : Int} (h1 : -2147483648 ≤ a) (h2 : a < 2147483648) : jI a ≤ (5 : Int32) ↔ a ≤ 5 := by rw [show (5 : Int32) = jI 5 from jI_lit 5]; exact jI_le ⟨h1, h2⟩ ⟨by decide, by decide⟩
theorem r_le_5 {a : Int} (h1 : -2147483648 ≤ a) (h2 : a < 2147483648) : (5 : Int32) ≤ jI a ↔ 5 ≤ a := by rw [show (5 : Int32) = jI 5 from jI_lit 5]; exact jI_le ⟨by decide, by decide⟩ ⟨h1, h2⟩
theorem q_eq_5 {a : Int} (h1 : -2147483648 ≤ a) (h2 : a < 2147483648) : jI a = (5 : Int32) ↔ a = 5 := by rw [show (5 : Int32) = jI 5 from jI_lit 5]; exact jI_eq ⟨h1, h2⟩ ⟨by decide, by decide⟩
theorem q_add_5 {a : Int} : jI a + (5 : Int32) = jI (a + 5) := by rw [show (5 : Int32) = jI 5 from jI_lit 5]; exact jI_add a 5
theorem q_sub_5 {a : Int} : jI a - (5 : Int32) = jI (a - 5) := by rw [show (5 : Int32) = jI 5 from jI_lit 5]; exact jI_sub a 5
theorem r_add_5 {a : Int} : (5 : Int32) + jI a = jI (5 + a) := by rw [show (5 : Int32) = jI 5 from jI_lit 5]; exact jI_add 5 a
theorem r_mul_5 {a : Int} : (5 : Int32) * jI a = jI (5 * a) := by rw [show (5 : Int32) = jI 5 from jI_lit 5]; exact jI_mul 5 a
theorem q_mul_5 {a : Int} : jI a * (5 : Int32) = jI (a * 5) := by rw [show (5 : Int32) = jI 5 from jI_lit 5]; exact jI_mul a 5
theorem q_div_5 {a : Int} (h1 : -2147483648 ≤ a) (h2 : a < 2147483648) : jI a / (5 : Int32) = jI (a.tdiv 5) := by rw [show (5 : Int32) = jI 5 from jI_lit 5]; exact jI_div ⟨h1, h2⟩ ⟨by decide, by decide⟩ (by omega)
theorem q_rem_5 {a : Int} (h1 : -2147483648 ≤ a) (h2 : a < 2147483648) : ai_rem (jI a) (5 : Int32) = jI (a.tmod 5) := by rw [show (5 : Int32) = jI 5 from jI_lit 5]; exact jI_rem ⟨h1, h2⟩ ⟨by decide, by decide⟩ (by omega)
theorem q_lt_6 {a : Int} (h1 : -2147483648 ≤ a) (h2 : a < 2147483648) : jI a < (6 : Int32) ↔ a < 6 := by rw [show (6 : Int32) = jI 6 from jI_lit 6]; exact jI_lt ⟨h1, h2⟩ ⟨by decide, by decide⟩
theorem r_lt_6 {a : Int} (h1 : -2147483648 ≤ a) (h2 : a < 2147483648) : (6 : Int32) < jI a ↔ 6 < a := by rw [show (6 : Int32) = jI 6 from jI_lit 6]; exact jI_lt ⟨by decide, by decide⟩ ⟨h1, h2⟩
theorem q_le_6 {a : Int} (h1 : -2147483648 ≤ a) (h2 : a < 2147483648) : jI a ≤ (6 : Int32) ↔ a ≤ 6 := by rw [show (6 : Int32) = jI 6 from jI_lit 6]; exact jI_le ⟨h1, h2⟩ ⟨by decide, by decide⟩
theorem r_le_6 {a : Int} (h1 : -2147483648 ≤ a) (h2 : a < 2147483648) : (6 : Int32) ≤ jI a ↔ 6 ≤ a := by rw [show (6 : Int32) = jI 6 from jI_lit 6]; exact jI_le ⟨by decide, by decide⟩ ⟨h1, h2⟩
theorem q_eq_6 {a : Int} (h1 : -2147483648 ≤ a) (h2 : a < 2147483648) : jI a = (6 : Int32) ↔ a = 6 := by rw [show (6 : Int32) = jI 6 from jI_lit 6]; exact jI_eq ⟨h1, h2⟩ ⟨by decide, by decide⟩
theorem q_add_6 {a : Int} : jI a + (6 : Int32) = jI (a + 6) := by rw [show (6 : Int32) = jI 6 from jI_lit 6]; exact jI_add a 6
theorem q_sub_6 {a : Int} : jI a - (6 : Int32) = jI (a - 6) := by rw [show (6 : Int32) = jI 6 from jI_lit 6]; exact jI_sub a 6
theorem r_add_6 {a : Int} : (6 : Int32) + jI a = jI (6 + a) := by rw [show (6 : Int32) = jI 6 from jI_lit 6]; exact jI_add 6 a
theorem r_mul_6 {a : Int} : (6 : Int32) * jI a = jI (6 * a) := by rw [show (6 : Int32) = jI 6 from jI_lit 6]; exact jI_mul 6 a
theorem q_mul_6 {a : Int} : jI a * (6 : Int32) = jI (a * 6) := by rw [show (6 : Int32) = jI 6 from jI_lit 6]; exact jI_mul a 6
theorem q_div_6 {a : Int} (h1 : -2147483648 ≤ a) (h2 : a < 2147483648) : jI a / (6 : Int32) = jI (a.tdiv 6) := by rw [show (6 : Int32) = jI 6 from jI_lit 6]; exact jI_div ⟨h1, h2⟩ ⟨by decide, by decide⟩ (by omega)
theorem q_rem_6 {a : Int} (h1 : -2147483648 ≤ a) (h2 : a < 2147483648) : ai_rem (jI a) (6 : Int32) = jI (a.tmod 6) := by rw [show (6 : Int32) = jI 6 from jI_lit 6]; exact jI_rem ⟨h1, h2⟩ ⟨by decide, by decide⟩ (by omega)
theorem q_lt_7 {a : Int} (h1 : -2147483648 ≤ a) (h2 : a < 2147483648) : jI a < (7 : Int32) ↔ a < 7 := by rw [show (7 : Int32) = jI 7 from jI_lit 7]; exact jI_lt ⟨h1, h2⟩ ⟨by decide, by decide⟩
theorem r_lt_7 {a : Int} (h1 : -2147483648 ≤ a) (h2 : a < 2147483648) : (7 : Int32) < jI a ↔ 7 < a := by rw [show (7 : Int32) = jI 7 from jI_lit 7]; exact jI_lt ⟨by decide, by decide⟩ ⟨h1, h2⟩
theorem q_le_7 {a : Int} (h1 : -2147483648 ≤ a) (h2 : a < 2147483648) : jI a ≤ (7 : Int32) ↔ a ≤ 7 := by rw [show (7 : Int32) = jI 7 from jI_lit 7]; exact jI_le ⟨h1, h2⟩ ⟨by decide, by decide⟩
theorem r_le_7 {a : Int} (h1 : -2147483648 ≤ a) (h2 : a < 2147483648) : (7 : Int32) ≤ jI a ↔ 7 ≤ a := by rw [show (7 : Int32) = jI 7 from jI_lit 7]; exact jI_le ⟨by decide, by decide⟩ ⟨h1, h2⟩
theorem q_eq_7 {a : Int} (h1 : -2147483648 ≤ a) (h2 : a < 2147483648) : jI a = (7 : Int32) ↔ a = 7 := by rw [show (7 : Int32) = jI 7 from jI_lit 7]; exact jI_eq ⟨h1, h2⟩ ⟨by decide, by decide⟩
theorem q_add_7 {a : Int} : jI a + (7 : Int32) = jI (a + 7) := by rw [show (7 : Int32) = jI 7 from jI_lit 7]; exact jI_add a 7
theorem q_sub_7 {a : Int} : jI a - (7 : Int32) = jI (a - 7) := by rw [show (7 : Int32) = jI 7 from jI_lit 7]; exact jI_sub a 7
theorem r_add_7 {a : Int} : (7 : Int32) + jI a = jI (7 + a) := by rw [show (7 : Int32) = jI 7 from jI_lit 7]; exact jI_add 7 a
theorem r_mul_7 {a : Int} : (7 : Int32) * jI a = jI (7 * a) := by rw [show (7 : Int32) = jI 7 from jI_lit 7]; exact jI_mul 7 a
theorem q_mul_7 {a : Int} : jI a * (7 : Int32) = jI (a * 7) := by rw [show (7 : Int32) = jI 7 from jI_lit 7]; exact jI_mul a 7
theorem q_div_7 {a : Int} (h1 : -2147483648 ≤ a) (h2 : a < 2147483648) : jI a / (7 : Int32) = jI (a.tdiv 7) := by rw [show (7 : Int32) = jI 7 from jI_lit 7]; exact jI_div ⟨h1, h2⟩ ⟨by decide, by decide⟩ (by omega)
theorem q_rem_7 {a : Int} (h1 : -2147483648 ≤ a) (h2 : a < 2147483648) : ai_rem (jI a) (7 : Int32) = jI (a.tmod 7) := by rw [show (7 : Int32) = jI 7 from jI_lit 7]; exact jI_rem ⟨h1, h2⟩ ⟨by decide, by decide⟩ (by omega)
theorem q_lt_8 {a : Int} (h1 : -2147483648 ≤ a) (h2 : a < 2147483648) : jI a < (8 : Int32) ↔ a < 8 := by rw [show (8 : Int32) = jI 8 from jI_lit 8]; exact jI_lt ⟨h1, h2⟩ ⟨by decide, by decide⟩
theorem r_lt_8 {a : Int} (h1 : -2147483648 ≤ a) (h2 : a < 2147483648) : (8 : Int32) < jI a ↔ 8 < a := by rw [show (8 : Int32) = jI 8 from jI_lit 8]; exact jI_lt ⟨by decide, by decide⟩ ⟨h1, h2⟩
theorem q_le_8 {a : Int} (h1 : -2147483648 ≤ a) (h2 : a < 2147483648) : jI a ≤ (8 : Int32) ↔ a ≤ 8 := by rw [show (8 : Int32) = jI 8 from jI_lit 8]; exact jI_le ⟨h1, h2⟩ ⟨by decide, by decide⟩
theorem r_le_8 {a : Int} (h1 : -2147483648 ≤ a) (h2 : a < 2147483648) : (8 : Int32) ≤ jI a ↔ 8 ≤ a := by rw [show (8 : Int32) = jI 8 from jI_lit 8]; exact jI_le ⟨by decide, by decide⟩ ⟨h1, h2⟩
theorem q_eq_8 {a : Int} (h1 : -2147483648 ≤ a) (h2 : a < 2147483648) : jI a = (8 : Int32) ↔ a = 8 := by rw [show (8 : Int32) = jI 8 from jI_lit 8]; exact jI_eq ⟨h1, h2⟩ ⟨by decide, by decide⟩
theorem q_add_8 {a : Int} : jI a + (8 : Int32) = jI (a + 8) := by rw [show (8 : Int32) = jI 8 from jI_lit 8]; exact jI_add a 8
theorem q_sub_8 {a : Int} : jI a - (8 : Int32) = jI (a - 8) := by rw [show (8 : Int32) = jI 8 from jI_lit 8]; exact jI_sub a 8
theorem r_add_8 {a : Int} : (8 : Int32) + jI a = jI (8 + a) := by rw [show (8 : Int32) = jI 8 from jI_lit 8]; exact jI_add 8 a
theorem r_mul_8 {a : Int} : (8 : Int32) * jI a = jI (8 * a) := by rw [show (8 : Int32) = jI 8 from jI_lit 8]; exact jI_mul 8 a
theorem q_mul_8 {a : Int} : jI a * (8 : Int32) = jI (a * 8) := by rw [show (8 : Int32) = jI 8 from jI_lit 8]; exact jI_mul a 8
theorem q_div_8 {a : Int} (h1 : -2147483648 ≤ a) (h2 : a < 2147483648) : jI a / (8 : Int32) = jI (a.tdiv 8) := by rw [show (8 : Int32) = jI 8 from jI_lit 8]; exact jI_div ⟨h1, h2⟩ ⟨by decide, by decide⟩ (by omega)
theorem q_rem_8 {a : Int} (h1 : -2147483648 ≤ a) (h2 : a < 2147483648) : ai_rem (jI a) (8 : Int32) = jI (a.tmod 8) := by rw [show (8 : Int32) = jI 8 from jI_lit 8]; exact jI_rem ⟨h1, h2⟩ ⟨by decide, by decide⟩ (by omega)
theorem q_lt_9 {a : Int} (h1 : -2147483648 ≤ a) (h2 : a < 2147483648) : jI a < (9 : Int32) ↔ a < 9 := by rw [show (9 : Int32) = jI 9 from jI_lit 9]; exact jI_lt ⟨h1, h2⟩ ⟨by decide, by decide⟩
theorem r_lt_9 {a : Int} (h1 : -2147483648 ≤ a) (h2 : a < 2147483648) : (9 : Int32) < jI a ↔ 9 < a := by rw [show (9 : Int32) = jI 9 from jI_lit 9]; exact jI_lt ⟨by decide, by decide⟩ ⟨h1, h2⟩
theorem q_le_9 {a : Int} (h1 : -2147483648 ≤ a) (h2 : a < 2147483648) : jI a ≤ (9 : Int32) ↔ a ≤ 9 := by rw [show (9 : Int32) = jI 9 from jI_lit 9]; exact jI_le ⟨h1, h2⟩ ⟨by decide, by decide⟩
theorem r_le_9 {a : Int} (h1 : -2147483648 ≤ a) (h2 : a < 2147483648) : (9 : Int32) ≤ jI a ↔ 9 ≤ a := by rw [show (9 : Int32) = jI 9 from jI_lit 9]; exact jI_le ⟨by decide, by decide⟩ ⟨h1, h2⟩
theorem q_eq_9 {a : Int} (h1 : -2147483648 ≤ a) (h2 : a < 2147483648) : jI a = (9 : Int32) ↔ a = 9 := by rw [show (9 : Int32) = jI 9 from jI_lit 9]; exact jI_eq ⟨h1, h2⟩ ⟨by decide, by decide⟩
theorem q_add_9 {a : Int} : jI a + (9 : Int32) = jI (a + 9) := by rw [show (9 : Int32) = jI 9 from jI_lit 9]; exact jI_add a 9
theorem q_sub_9 {a : Int} : jI a - (9 : Int32) = jI (a - 9) := by rw [show (9 : Int32) = jI 9 from jI_lit 9]; exact jI_sub a 9
theorem r_add_9 {a : Int} : (9 : Int32) + jI a = jI (9 + a) := by rw [show (9 : Int32) = jI 9 from jI_lit 9]; exact jI_add 9 a
theorem r_mul_9 {a : Int} : (9 : Int32) * jI a = jI (9 * a) := by rw [show (9 : Int32) = jI 9 from jI_lit 9]; exact jI_mul 9 a
theorem q_mul_9 {a : Int} : jI a * (9 : Int32) = jI (a * 9) := by rw [show (9 : Int32) = jI 9 from jI_lit 9]; exact jI_mul a 9
theorem q_div_9 {a : Int} (h1 : -2147483648 ≤ a) (h2 : a < 2147483648) : jI a / (9 : Int32) = jI (a.tdiv 9) := by rw [show (9 : Int32) = jI 9 from jI_lit 9]; exact jI_div ⟨h1, h2⟩ ⟨by decide, by decide⟩ (by omega)
theorem q_rem_9 {a : Int} (h1 : -2147483648 ≤ a) (h2 : a < 2147483648) : ai_rem (jI a) (9 : Int32) = jI (a.tmod 9) := by rw [show (9 : Int32) = jI 9 from jI_lit 9]; exact jI_rem ⟨h1, h2⟩ ⟨by decide, by decide⟩ (by omega)
theorem q_lt_10 {a : Int} (h1 : -2147483648 ≤ a) (h2 : a < 2147483648) : jI a < (10 : Int32) ↔ a < 10 := by rw [show (10 : Int32) = jI 10 from jI_lit 10]; exact jI_lt ⟨h1, h2⟩ ⟨by decide, by decide⟩
theorem r_lt_10 {a : Int} (h1 : -2147483648 ≤ a) (h2 : a < 2147483648) : (10 : Int32) < jI a ↔ 10 < a := by rw [show (10 : Int32) = jI 10 from jI_lit 10]; exact jI_lt ⟨by decide, by decide⟩ ⟨h1, h2⟩
theorem q_le_10 {a : Int} (h1 : -2147483648 ≤ a) (h2 : a < 2147483648) : jI a ≤ (10 : Int32) ↔ a ≤ 10 := by rw [show (10 : Int32) = jI 10 from jI_lit 10]; exact jI_le ⟨h1, h2⟩ ⟨by decide, by decide⟩
theorem r_le_10 {a : Int} (h1 : -2147483648 ≤ a) (h2 : a < 2147483648) : (10 : Int32) ≤ jI a ↔ 10 ≤ a := by rw [show (10 : Int32) = jI 10 from jI_lit 10]; exact jI_le ⟨by decide, by decide⟩ ⟨h1, h2⟩
theorem q_eq_10 {a : Int} (h1 : -2147483648 ≤ a) (h2 : a < 2147483648) : jI a = (10 : Int32) ↔ a = 10 := by rw [show (10 : Int32) = jI 10 from jI_lit 10]; exact jI_eq ⟨h1, h2⟩ ⟨by decide, by decide⟩
theorem q_add_10 {a : Int} : jI a + (10 : Int32) = jI (a + 10) := by rw [show (10 : Int32) = jI 10 from jI_lit 10]; exact jI_add a 10
theorem q_sub_10 {a : Int} : jI a - (10 : Int32) = jI (a - 10) := by rw [show (10 : Int32) = jI 10 from jI_lit 10]; exact jI_sub a 10
theorem r_add_10 {a : Int} : (10 : Int32) + jI a = jI (10 + a) := by rw [show (10 : Int32) = jI 10 from jI_lit 10]; exact jI_add 10 a
theorem r_mul_10 {a : Int} : (10 : Int32) * jI a = jI (10 * a) := by rw [show (10 : Int32) = jI 10 from jI_lit 10]; exact jI_mul 10 a
theorem q_mul_10 {a : Int} : jI a * (10 : Int32) = jI (a * 10) := by rw [show (10 : Int32) = jI 10 from jI_lit 10]; exact jI_mul a 10
theorem q_div_10 {a : Int} (h1 : -2147483648 ≤ a) (h2 : a < 2147483648) : jI a / (10 : Int32) = jI (a.tdiv 10) := by rw [show (10 : Int32) = jI 10 from jI_lit 10]; exact jI_div ⟨h1, h2⟩ ⟨by decide, by decide⟩ (by omega)
theorem q_rem_10 {a : Int} (h1 : -2147483648 ≤ a) (h2 : a < 2147483648) : ai_rem (jI a) (10 : Int32) = jI (a.tmod 10) := by rw [show (10 : Int32) = jI 10 from jI_lit 10]; exact jI_rem ⟨h1, h2⟩ ⟨by decide, by decide⟩ (by omega)
theorem q_lt_11 {a : Int} (h1 : -2147483648 ≤ a) (h2 : a < 2147483648) : jI a < (11 : Int32) ↔ a < 11 := by rw [show (11 : Int32) = jI 11 from jI_lit 11]; exact jI_lt ⟨h1, h2⟩ ⟨by decide, by decide⟩
theorem r_lt_11 {a : Int} (h1 : -2147483648 ≤ a) (h2 : a < 2147483648) : (11 : Int32) < jI a ↔ 11 < a := by rw [show (11 : Int32) = jI 11 from jI_lit 11]; exact jI_lt ⟨by decide, by decide⟩ ⟨h1, h2⟩
theorem q_le_11 {a : Int} (h1 : -2147483648 ≤ a) (h2 : a < 2147483648) : jI a ≤ (11 : Int32) ↔ a ≤ 11 := by rw [show (11 : Int32) = jI 11 from jI_lit 11]; exact jI_le ⟨h1, h2⟩ ⟨by decide, by decide⟩
theorem r_le_11 {a : Int} (h1 : -2147483648 ≤ a) (h2 : a < 2147483648) : (11 : Int32) ≤ jI a ↔ 11 ≤ a := by rw [show (11 : Int32) = jI 11 from jI_lit 11]; exact jI_le ⟨by decide, by decide⟩ ⟨h1, h2⟩
theorem q_eq_11 {a : Int} (h1 : -2147483648 ≤ a) (h2 : a < 2147483648) : jI a = (11 : Int32) ↔ a = 11 := by rw [show (11 : Int32) = jI 11 from jI_lit 11]; exact jI_eq ⟨h1, h2⟩ ⟨by decide, by decide⟩
theorem q_add_11 {a : Int} : jI a + (11 : Int32) = jI (a + 11) := by rw [show (11 : Int32) = jI 11 from jI_lit 11]; exact jI_add a 11
theorem q_sub_11 {a : Int} : jI a - (11 : Int32) = jI (a - 11) := by rw [show (11 : Int32) = jI 11 from jI_lit 11]; exact jI_sub a 11
theorem r_add_11 {a : Int} : (11 : Int32) + jI a = jI (11 + a) := by rw [show (11 : Int32) = jI 11 from jI_lit 11]; exact jI_add 11 a
theorem r_mul_11 {a : Int} : (11 : Int32) * jI a = jI (11 * a) := by rw [show (11 : Int32) = jI 11 from jI_lit 11]; exact jI_mul 11 a
theorem q_mul_11 {a : Int} : jI a * (11 : Int32) = jI (a * 11) := by rw [show (11 : Int32) = jI 11 from jI_lit 11]; exact jI_mul a 11
theorem q_div_11 {a : Int} (h1 : -2147483648 ≤ a) (h2 : a < 2147483648) : jI a / (11 : Int32) = jI (a.tdiv 11) := by rw [show (11 : Int32) = jI 11 from jI_lit 11]; exact jI_div ⟨h1, h2⟩ ⟨by decide, by decide⟩ (by omega)
theorem q_rem_11 {a : Int} (h1 : -2147483648 ≤ a) (h2 : a < 2147483648) : ai_rem (jI a) (11 : Int32) = jI (a.tmod 11) := by rw [show (11 : Int32) = jI 11 from jI_lit 11]; exact jI_rem ⟨h1, h2⟩ ⟨by decide, by decide⟩ (by omega)
theorem q_lt_12 {a : Int} (h1 : -2147483648 ≤ a) (h2 : a < 2147483648) : jI a < (12 : Int32) ↔ a < 12 := by rw [show (12 : Int32) = jI 12 from jI_lit 12]; exact jI_lt ⟨h1, h2⟩ ⟨by decide, by decide⟩
theorem r_lt_12 {a : Int} (h1 : -2147483648 ≤ a) (h2 : a < 2147483648) : (12 : Int32) < jI a ↔ 12 < a := by rw [show (12 : Int32) = jI 12 from jI_lit 12]; exact jI_lt ⟨by decide, by decide⟩ ⟨h1, h2⟩
theorem q_le_12 {a : Int} (h1 : -2147483648 ≤ a) (h2 : a < 2147483648) : jI a ≤ (12 : Int32) ↔ a ≤ 12 := by rw [show (12 : Int32) = jI 12 from jI_lit 12]; exact jI_le ⟨h1, h2⟩ ⟨by decide, by decide⟩
theorem r_le_12 {a : Int} (h1 : -2147483648 ≤ a) (h2 : a < 2147483648) : (12 : Int32) ≤ jI a ↔ 12 ≤ a := by rw [show (12 : Int32) = jI 12 from jI_lit 12]; exact jI_le ⟨by decide, by decide⟩ ⟨h1, h2⟩
theorem q_eq_12 {a : Int} (h1 : -2147483648 ≤ a) (h2 : a < 2147483648) : jI a = (12 : Int32) ↔ a = 12 := by rw [show (12 : Int32) = jI 12 from jI_lit 12]; exact jI_eq ⟨h1, h2⟩ ⟨by decide, by decide⟩
theorem q_add_12 {a : Int} : jI a + (12 : Int32) = jI (a + 12) := by rw [show (12 : Int32) = jI 12 from jI_lit 12]; exact jI_add a 12
theorem q_sub_12 {a : Int} : jI a - (12 : Int32) = jI (a - 12) := by rw [show (12 : Int32) = jI 12 from jI_lit 12]; exact jI_sub a 12
theorem r_add_12 {a : Int} : (12 : Int32) + jI a = jI (12 + a) := by rw [show (12 : Int32) = jI 12 from jI_lit 12]; exact jI_add 12 a
theorem r_mul_12 {a : Int} : (12 : Int32) * jI a = jI (12 * a) := by rw [show (12 : Int32) = jI 12 from jI_lit 12]; exact jI_mul 12 a
theorem q_mul_12 {a : Int} : jI a * (12 : Int32) = jI (a * 12) := by rw [show (12 : Int32) = jI 12 from jI_lit 12]; exact jI_mul a 12
theorem q_div_12 {a : Int} (h1 : -2147483648 ≤ a) (h2 : a < 2147483648) : jI a / (12 : Int32) = jI (a.tdiv 12) := by rw [show (12 : Int32) = jI 12 from jI_lit 12]; exact jI_div ⟨h1, h2⟩ ⟨by decide, by decide⟩ (by omega)
theorem q_rem_12 {a : Int} (h1 : -2147483648 ≤ a) (h2 : a < 2147483648) : ai_rem (jI a) (12 : Int32) = jI (a.tmod 12) := by rw [show (12 : Int32) = jI 12 from jI_lit 12]; exact jI_rem ⟨h1, h2⟩ ⟨by decide, by decide⟩ (by omega)
theorem q_lt_13 {a : Int} (h1 : -2147483648 ≤ a) (h2 : a < 2147483648) : jI a < (13 : Int32) ↔ a < 13 := by rw [show (13 : Int32) = jI 13 from jI_lit 13]; exact jI_lt ⟨h1, h2⟩ ⟨by decide, by decide⟩
theorem r_lt_13 {a : Int} (h1 : -2147483648 ≤ a) (h2 : a < 2147483648) : (13 : Int32) < jI a ↔ 13 < a := by rw [show (13 : Int32) = jI 13 from jI_lit 13]; exact jI_lt ⟨by decide, by decide⟩ ⟨h1, h2⟩
theorem q_le_13 {a : Int} (h1 : -2147483648 ≤ a) (h2 : a < 2147483648) : jI a ≤ (13 : Int32) ↔ a ≤ 13 := by rw [show (13 : Int32) = jI 13 from jI_lit 13]; exact jI_le ⟨h1, h2⟩ ⟨by decide, by decide⟩
theorem r_le_13 {a : Int} (h1 : -2147483648 ≤ a) (h2 : a < 2147483648) : (13 : Int32) ≤ jI a ↔ 13 ≤ a := by rw [show (13 : Int32) = jI 13 from jI_lit 13]; exact jI_le ⟨by decide, by decide⟩ ⟨h1, h2⟩
theorem q_eq_13 {a : Int} (h1 : -2147483648 ≤ a) (h2 : a < 2147483648) : jI a = (13 : Int32) ↔ a = 13 := by rw [show (13 : Int32) = jI 13 from jI_lit 13]; exact jI_eq ⟨h1, h2⟩ ⟨by decide, by decide⟩
theorem q_add_13 {a : Int} : jI a + (13 : Int32) = jI (a + 13) := by rw [show (13 : Int32) = jI 13 from jI_lit 13]; exact jI_add a 13
theorem q_sub_13 {a : Int} : jI a - (13 : Int32) = jI (a - 13) := by rw [show (13 : Int32) = jI 13 from jI_lit 13]; exact jI_sub a 13
theorem r_add_13 {a : Int} : (13 : Int32) + jI a = jI (13 + a) := by rw [show (13 : Int32) = jI 13 from jI_lit 13]; exact jI_add 13 a
theorem r_mul_13 {a : Int} : (13 : Int32) * jI a = jI (13 * a) := by rw [show (13 : Int32) = jI 13 from jI_lit 13]; exact jI_mul 13 a
theorem q_mul_13 {a : Int} : jI a * (13 : Int32) = jI (a * 13) := by rw [show (13 : Int32) = jI 13 from jI_lit 13]; exact jI_mul a 13
theorem q_div_13 {a : Int} (h1 : -2147483648 ≤ a) (h2 : a < 2147483648) : jI a / (13 : Int32) = jI (a.tdiv 13) := by rw [show (13 : Int32) = jI 13 from jI_lit 13]; exact jI_div ⟨h1, h2⟩ ⟨by decide, by decide⟩ (by omega)
theorem q_rem_13 {a : Int} (h1 : -2147483648 ≤ a) (h2 : a < 2147483648) : ai_rem (jI a) (13 : Int32) = jI (a.tmod 13) := by rw [show (13 : Int32) = jI 13 from jI_lit 13]; exact jI_rem ⟨h1, h2⟩ ⟨by decide, by decide⟩ (by omega)
theorem q_lt_14 {a : Int} (h1 : -2147483648 ≤ a) (h2 : a < 2147483648) : jI a < (14 : Int32) ↔ a < 14 := by rw [show (14 : Int32) = jI 14 from jI_lit 14]; exact jI_lt ⟨h1, h2⟩ ⟨by decide, by decide⟩
theorem r_lt_14 {a : Int} (h1 : -2147483648 ≤ a) (h2 : a < 2147483648) : (14 : Int32) < jI a ↔ 14 < a := by rw [show (14 : Int32) = jI 14 from jI_lit 14]; exact jI_lt ⟨by decide, by decide⟩ ⟨h1, h2⟩
theorem q_le_14 {a : Int} (h1 : -2147483648 ≤ a) (h2 : a < 2147483648) : jI a ≤ (14 : Int32) ↔ a ≤ 14 := by rw [show (14 : Int32) = jI 14 from jI_lit 14]; exact jI_le ⟨h1, h2⟩ ⟨by decide, by decide⟩
theorem r_le_14 {a : Int} (h1 : -2147483648 ≤ a) (h2 : a < 2147483648) : (14 : Int32) ≤ jI a ↔ 14 ≤ a := by rw [show (14 : Int32) = jI 14 from jI_lit 14]; exact jI_le ⟨by decide, by decide⟩ ⟨h1, h2⟩
theorem q_eq_14 {a : Int} (h1 : -2147483648 ≤ a) (h2 : a < 2147483648) : jI a = (14 : Int32) ↔ a = 14 := by rw [show (14 : Int32) = jI 14 from jI_lit 14]; exact jI_eq ⟨h1, h2⟩ ⟨by decide, by decide⟩
theorem q_add_14 {a : Int} : jI a + (14 : Int32) = jI (a + 14) := by rw [show (14 : Int32) = jI 14 from jI_lit 14]; exact jI_add a 14
theorem q_sub_14 {a : Int} : jI a - (14 : Int32) = jI (a - 14) := by rw [show (14 : Int32) = jI 14 from jI_lit 14]; exact jI_sub a 14
theorem r_add_14 {a : Int} : (14 : Int32) + jI a = jI (14 + a) := by rw [show (14 : Int32) = jI 14 from jI_lit 14]; exact jI_add 14 a
theorem r_mul_14 {a : Int} : (14 : Int32) * jI a = jI (14 * a) := by rw [show (14 : Int32) = jI 14 from jI_lit 14]; exact jI_mul 14 a
theorem q_mul_14 {a : Int} : jI a * (14 : Int32) = jI (a * 14) := by rw [show (14 : Int32) = jI 14 from jI_lit 14]; exact jI_mul a 14
theorem q_div_14 {a : Int} (h1 : -2147483648 ≤ a) (h2 : a < 2147483648) : jI a / (14 : Int32) = jI (a.tdiv 14) := by rw [show (14 : Int32) = jI 14 from jI_lit 14]; exact jI_div ⟨h1, h2⟩ ⟨by decide, by decide⟩ (by omega)
theorem q_rem_14 {a : Int} (h1 : -2147483648 ≤ a) (h2 : a < 2147483648) : ai_rem (jI a) (14 : Int32) = jI (a.tmod 14) := by rw [show (14 : Int32) = jI 14 from jI_lit 14]; exact jI_rem ⟨h1, h2⟩ ⟨by decide, by decide⟩ (by omega)
theorem q_lt_15 {a : Int} (h1 : -2147483648 ≤ a) (h2 : a < 2147483648) : jI a < (15 : Int32) ↔ a < 15 := by rw [show (15 : Int32) = jI 15 from jI_lit 15]; exact jI_lt ⟨h1, h2⟩ ⟨by decide, by decide⟩
theorem r_lt_15 {a : Int} (h1 : -2147483648 ≤ a) (h2 : a < 2147483648) : (15 : Int32) < jI a ↔ 15 < a := by rw [show (15 : Int32) = jI 15 from jI_lit 15]; exact jI_lt ⟨by decide, by decide⟩ ⟨h1, h2⟩
theorem q_le_15 {a : Int} (h1 : -2147483648 ≤ a) (h2 : a < 2147483648) : jI a ≤ (15 : Int32) ↔ a ≤ 15 := by rw [show (15 : Int32) = jI 15 from jI_lit 15]; exact jI_le ⟨h1, h2⟩ ⟨by decide, by decide⟩
theorem r_le_15 {a : Int} (h1 : -2147483648 ≤ a) (h2 : a < 2147483648) : (15 : Int32) ≤ jI a ↔ 15 ≤ a := by rw [show (15 : Int32) = jI 15 from jI_lit 15]; exact jI_le ⟨by decide, by decide⟩ ⟨h1, h2⟩
theorem q_eq_15 {a : Int} (h1 : -2147483648 ≤ a) (h2 : a < 2147483648) : jI a = (15 : Int32) ↔ a = 15 := by rw [show (15 : Int32) = jI 15 from jI_lit 15]; exact jI_eq ⟨h1, h2⟩ ⟨by decide, by decide⟩
theorem q_add_15 {a : Int} : jI a + (15 : Int32) = jI (a + 15) := by rw [show (15 : Int32) = jI 15 from jI_lit 15]; exact jI_add a 15
theorem q_sub_15 {a : Int} : jI a - (15 : Int32) = jI (a - 15) := by rw [show (15 : Int32) = jI 15 from jI_lit 15]; exact jI_sub a 15
theorem r_add_15 {a : Int} : (15 : Int32) + jI a = jI (15 + a) := by rw [show (15 : Int32) = jI 15 from jI_lit 15]; exact jI_add 15 a
theorem r_mul_15 {a : Int} : (15 : Int32) * jI a = jI (15 * a) := by rw [show (15 : Int32) = jI 15 from jI_lit 15]; exact jI_mul 15 a
theorem q_mul_15 {a : Int} : jI a * (15 : Int32) = jI (a * 15) := by rw [show (15 : Int32) = jI 15 from jI_lit 15]; exact jI_mul a 15
theorem q_div_15 {a : Int} (h1 : -2147483648 ≤ a) (h2 : a < 2147483648) : jI a / (15 : Int32) = jI (a.tdiv 15) := by rw [show (15 : Int32) = jI 15 from jI_lit 15]; exact jI_div ⟨h1, h2⟩ ⟨by decide, by decide⟩ (by omega)
theorem q_rem_15 {a : Int} (h1 : -2147483648 ≤ a) (h2 : a < 2147483648) : ai_rem (jI a) (15 : Int32) = jI (a.tmod 15) := by rw [show (15 : Int32) = jI 15 from jI_lit 15]; exact jI_rem ⟨h1, h2⟩ ⟨by decide, by decide⟩ (by omega)
theorem q_lt_16 {a : Int} (h1 : -2147483648 ≤ a) (h2 : a < 2147483648) : jI a < (16 : Int32) ↔ a < 16 := by rw [show (16 : Int32) = jI 16 from jI_lit 16]; exact jI_lt ⟨h1, h2⟩ ⟨by decide, by decide⟩
theorem r_lt_16 {a : Int} (h1 : -2147483648 ≤ a) (h2 : a < 2147483648) : (16 : Int32) < jI a ↔ 16 < a := by rw [show (16 : Int32) = jI 16 from jI_lit 16]; exact jI_lt ⟨by decide, by decide⟩ ⟨h1, h2⟩
theorem q_le_16 {a : Int} (h1 : -2147483648 ≤ a) (h2 : a < 2147483648) : jI a ≤ (16 : Int32) ↔ a ≤ 16 := by rw [show (16 : Int32) = jI 16 from jI_lit 16]; exact jI_le ⟨h1, h2⟩ ⟨by decide, by decide⟩
theorem r_le_16 {a : Int} (h1 : -2147483648 ≤ a) (h2 : a < 2147483648) : (16 : Int32) ≤ jI a ↔ 16 ≤ a := by rw [show (16 : Int32) = jI 16 from jI_lit 16]; exact jI_le ⟨by decide, by decide⟩ ⟨h1, h2⟩
theorem q_eq_16 {a : Int} (h1 : -2147483648 ≤ a) (h2 : a < 2147483648) : jI a = (16 : Int32) ↔ a = 16 := by rw [show (16 : Int32) = jI 16 from jI_lit 16]; exact jI_eq ⟨h1, h2⟩ ⟨by decide, by decide⟩
theorem q_add_16 {a : Int} : jI a + (16 : Int32) = jI (a + 16) := by rw [show (16 : Int32) = jI 16 from jI_lit 16]; exact jI_add a 16
theorem q_sub_16 {a : Int} : jI a - (16 : Int32) = jI (a - 16) := by rw [show (16 : Int32) = jI 16 from jI_lit 16]; exact jI_sub a 16
theorem r_add_16 {a : Int} : (16 : Int32) + jI a = jI (16 + a) := by rw [show (16 : Int32) = jI 16 from jI_lit 16]; exact jI_add 16 a
theorem r_mul_16 {a : Int} : (16 : Int32) * jI a = jI (16 * a) := by rw [show (16 : Int32) = jI 16 from jI_lit 16]; exact jI_mul 16 a
theorem q_mul_16 {a : Int} : jI a * (16 : Int32) = jI (a * 16) := by rw [show (16 : Int32) = jI 16 from jI_lit 16]; exact jI_mul a 16
theorem q_div_16 {a : Int} (h1 : -2147483648 ≤ a) (h2 : a < 2147483648) : jI a / (16 : Int32) = jI (a.tdiv 16) := by rw [show (16 : Int32) = jI 16 from jI_lit 16]; exact jI_div ⟨h1, h2⟩ ⟨by decide, by decide⟩ (by omega)
theorem q_rem_16 {a : Int} (h1 : -2147483648 ≤ a) (h2 : a < 2147483648) : ai_rem (jI a) (16 : Int32) = jI (a.tmod 16) := by rw [show (16 : Int32) = jI 16 from jI_lit 16]; exact jI_rem ⟨h1, h2⟩ ⟨by decide, by decide⟩ (by omega)
theorem q_lt_17 {a : Int} (h1 : -2147483648 ≤ a) (h2 : a < 2147483648) : jI a < (17 : Int32) ↔ a < 17 := by rw [show (17 : Int32) = jI 17 from jI_lit 17]; exact jI_lt ⟨h1, h2⟩ ⟨by decide, by decide⟩
theorem r_lt_17 {a : Int} (h1 : -2147483648 ≤ a) (h2 : a < 2147483648) : (17 : Int32) < jI a ↔ 17 < a := by rw [show (17 : Int32) = jI 17 from jI_lit 17]; exact jI_lt ⟨by decide, by decide⟩ ⟨h1, h2⟩
theorem q_le_17 {a : Int} (h1 : -2147483648 ≤ a) (h2 : a < 2147483648) : jI a ≤ (17 : Int32) ↔ a ≤ 17 := by rw [show (17 : Int32) = jI 17 from jI_lit 17]; exact jI_le ⟨h1, h2⟩ ⟨by decide, by decide⟩
theorem r_le_17 {a : Int} (h1 : -2147483648 ≤ a) (h2 : a < 2147483648) : (17 : Int32) ≤ jI a ↔ 17 ≤ a := by rw [show (17 : Int32) = jI 17 from jI_lit 17]; exact jI_le ⟨by decide, by decide⟩ ⟨h1, h2⟩
theorem q_eq_17 {a : Int} (h1 : -2147483648 ≤ a) (h2 : a < 2147483648) : jI a = (17 : Int32) ↔ a = 17 := by rw [show (17 : Int32) = jI 17 from jI_lit 17]; exact jI_eq ⟨h1, h2⟩ ⟨by decide, by decide⟩
theorem q_add_17 {a : Int} : jI a + (17 : Int32) = jI (a + 17) := by rw [show (17 : Int32) = jI 17 from jI_lit 17]; exact jI_add a 17
theorem q_sub_17 {a : Int} : jI a - (17 : Int32) = jI (a - 17) := by rw [show (17 : Int32) = jI 17 from jI_lit 17]; exact jI_sub a 17
theorem r_add_17 {a : Int} : (17 : Int32) + jI a = jI (17 + a) := by rw [show (17 : Int32) = jI 17 from jI_lit 17]; exact jI_add 17 a
theorem r_mul_17 {a : Int} : (17 : Int32) * jI a = jI (17 * a) := by rw [show (17 : Int32) = jI 17 from jI_lit 17]; exact jI_mul 17 a
theorem q_mul_17 {a : Int} : jI a * (17 : Int32) = jI (a * 17) := by rw [show (17 : Int32) = jI 17 from jI_lit 17]; exact jI_mul a 17
theorem q_div_17 {a : Int} (h1 : -2147483648 ≤ a) (h2 : a < 2147483648) : jI a / (17 : Int32) = jI (a.tdiv 17) := by rw [show (17 : Int32) = jI 17 from jI_lit 17]; exact jI_div ⟨h1, h2⟩ ⟨by decide, by decide⟩ (by omega)
theorem q_rem_17 {a : Int} (h1 : -2147483648 ≤ a) (h2 : a < 2147483648) : ai_rem (jI a) (17 : Int32) = jI (a.tmod 17) := by rw [show (17 : Int32) = jI 17 from jI_lit 17]; exact jI_rem ⟨h1, h2⟩ ⟨by decide, by decide⟩ (by omega)
theorem q_lt_18 {a : Int} (h1 : -2147483648 ≤ a) (h2 : a < 2147483648) : jI a < (18 : Int32) ↔ a < 18 := by rw [show (18 : Int32) = jI 18 from jI_lit 18]; exact jI_lt ⟨h1, h2⟩ ⟨by decide, by decide⟩
theorem r_lt_18 {a : Int} (h1 : -2147483648 ≤ a) (h2 : a < 2147483648) : (18 : Int32) < jI a ↔ 18 < a := by rw [show (18 : Int32) = jI 18 from jI_lit 18]; exact jI_lt ⟨by decide, by decide⟩ ⟨h1, h2⟩
theorem q_le_18 {a : Int} (h1 : -2147483648 ≤ a) (h2 : a < 2147483648) : jI a ≤ (18 : Int32) ↔ a ≤ 18 := by rw [show (18 : Int32) = jI 18 from jI_lit 18]; exact jI_le ⟨h1, h2⟩ ⟨by decide, by decide⟩
theorem r_le_18 {a : Int} (h1 : -2147483648 ≤ a) (h2 : a < 2147483648) : (18 : Int32) ≤ jI a ↔ 18 ≤ a := by rw [show (18 : Int32) = jI 18 from jI_lit 18]; exact jI_le ⟨by decide, by decide⟩ ⟨h1, h2⟩
theorem q_eq_18 {a : Int} (h1 : -2147483648 ≤ a) (h2 : a < 2147483648) : jI a = (18 : Int32) ↔ a = 18 := by rw [show (18 : Int32) = jI 18 from jI_lit 18]; exact jI_eq ⟨h1, h2⟩ ⟨by decide, by decide⟩
theorem q_add_18 {a : Int} : jI a + (18 : Int32) = jI (a + 18) := by rw [show (18 : Int32) = jI 18 from jI_lit 18]; exact jI_add a 18
theorem q_sub_18 {a : Int} : jI a - (18 : Int32) = jI (a - 18) := by rw [show (18 : Int32) = jI 18 from jI_lit 18]; exact jI_sub a 18
theorem r_add_18 {a : Int} : (18 : Int32) + jI a = jI (18 + a) := by rw [show (18 : Int32) = jI 18 from jI_lit 18]; exact jI_add 18 a
theorem r_mul_18 {a : Int} : (18 : Int32) * jI a = jI (18 * a) := by rw [show (18 : Int32) = jI 18 from jI_lit 18]; exact jI_mul 18 a
theorem q_mul_18 {a : Int} : jI a * (18 : Int32) = jI (a * 18) := by rw [show (18 : Int32) = jI 18 from jI_lit 18]; exact jI_mul a 18
theorem q_div_18 {a : Int} (h1 : -2147483648 ≤ a) (h2 : a < 2147483648) : jI a / (18 : Int32) = jI (a.tdiv 18) := by rw [show (18 : Int32) = jI 18 from jI_lit 18]; exact jI_div ⟨h1, h2⟩ ⟨by decide, by decide⟩ (by omega)
theorem q_rem_18 {a : Int} (h1 : -2147483648 ≤ a) (h2 : a < 2147483648) : ai_rem (jI a) (18 : Int32) = jI (a.tmod 18) := by rw [show (18 : Int32) = jI 18 from jI_lit 18]; exact jI_rem ⟨h1, h2⟩ ⟨by decide, by decide⟩ (by omega)
theorem q_lt_19 {a : Int} (h1 : -2147483648 ≤ a) (h2 : a < 2147483648) : jI a < (19 : Int32) ↔ a < 19 := by rw [show (19 : Int32) = jI 19 from jI_lit 19]; exact jI_lt ⟨h1, h2⟩ ⟨by decide, by decide⟩
theorem r_lt_19 {a : Int} (h1 : -2147483648 ≤ a) (h2 : a < 2147483648) : (19 : Int32) < jI a ↔ 19 < a := by rw [show (19 : Int32) = jI 19 from jI_lit 19]; exact jI_lt ⟨by decide, by decide⟩ ⟨h1, h2⟩
theorem q_le_19 {a : Int} (h1 : -2147483648 ≤ a) (h2 : a < 2147483648) : jI a ≤ (19 : Int32) ↔ a ≤ 19 := by rw [show (19 : Int32) = jI 19 from jI_lit 19]; exact jI_le ⟨h1, h2⟩ ⟨by decide, by decide⟩
theorem r_le_19 {a : Int} (h1 : -2147483648 ≤ a) (h2 : a < 2147483648) : (19 : Int32) ≤ jI a ↔ 19 ≤ a := by rw [show (19 : Int32) = jI 19 from jI_lit 19]; exact jI_le ⟨by decide, by decide⟩ ⟨h1, h2⟩
theorem q_eq_19 {a : Int} (h1 : -2147483648 ≤ a) (h2 : a < 2147483648) : jI a = (19 : Int32) ↔ a = 19 := by rw [show (19 : Int32) = jI 19 from jI_lit 19]; exact jI_eq ⟨h1, h2⟩ ⟨by decide, by decide⟩
theorem q_add_19 {a : Int} : jI a + (19 : Int32) = jI (a + 19) := by rw [show (19 : Int32) = jI 19 from jI_lit 19]; exact jI_add a 19
theorem q_sub_19 {a : Int} : jI a - (19 : Int32) = jI (a - 19) := by rw [show (19 : Int32) = jI 19 from jI_lit 19]; exact jI_sub a 19
theorem r_add_19 {a : Int} : (19 : Int32) + jI a = jI (19 + a) := by rw [show (19 : Int32) = jI 19 from jI_lit 19]; exact jI_add 19 a
theorem r_mul_19 {a : Int} : (19 : Int32) * jI a = jI (19 * a) := by rw [show (19 : Int32) = jI 19 from jI_lit 19]; exact jI_mul 19 a
theorem q_mul_19 {a : Int} : jI a * (19 : Int32) = jI (a * 19) := by rw [show (19 : Int32) = jI 19 from jI_lit 19]; exact jI_mul a 19
theorem q_div_19 {a : Int} (h1 : -2147483648 ≤ a) (h2 : a < 2147483648) : jI a / (19 : Int32) = jI (a.tdiv 19) := by rw [show (19 : Int32) = jI 19 from jI_lit 19]; exact jI_div ⟨h1, h2⟩ ⟨by decide, by decide⟩ (by omega)
theorem q_rem_19 {a : Int} (h1 : -2147483648 ≤ a) (h2 : a < 2147483648) : ai_rem (jI a) (19 : Int32) = jI (a.tmod 19) := by rw [show (19 : Int32) = jI 19 from jI_lit 19]; exact jI_rem ⟨h1, h2⟩ ⟨by decide, by decide⟩ (by omega)
theorem q_lt_20 {a : Int} (h1 : -2147483648 ≤ a) (h2 : a < 2147483648) : jI a < (20 : Int32) ↔ a < 20 := by rw [show (20 : Int32) = jI 20 from jI_lit 20]; exact jI_lt ⟨h1, h2⟩ ⟨by decide, by decide⟩
theorem r_lt_20 {a : Int} (h1 : -2147483648 ≤ a) (h2 : a < 2147483648) : (20 : Int32) < jI a ↔ 20 < a := by rw [show (20 : Int32) = jI 20 from jI_lit 20]; exact jI_lt ⟨by decide, by decide⟩ ⟨h1, h2⟩
theorem q_le_20 {a : Int} (h1 : -2147483648 ≤ a) (h2 : a < 2147483648) : jI a ≤ (20 : Int32) ↔ a ≤ 20 := by rw [show (20 : Int32) = jI 20 from jI_lit 20]; exact jI_le ⟨h1, h2⟩ ⟨by decide, by decide⟩
theorem r_le_20 {a : Int} (h1 : -2147483648 ≤ a) (h2 : a < 2147483648) : (20 : Int32) ≤ jI a ↔ 20 ≤ a := by rw [show (20 : Int32) = jI 20 from jI_lit 20]; exact jI_le ⟨by decide, by decide⟩ ⟨h1, h2⟩
theorem q_eq_20 {a : Int} (h1 : -2147483648 ≤ a) (h2 : a < 2147483648) : jI a = (20 : Int32) ↔ a = 20 := by rw [show (20 : Int32) = jI 20 from jI_lit 20]; exact jI_eq ⟨h1, h2⟩ ⟨by decide, by decide⟩
theorem q_add_20 {a : Int} : jI a + (20 : Int32) = jI (a + 20) := by rw [show (20 : Int32) = jI 20 from jI_lit 20]; exact jI_add a 20
theorem q_sub_20 {a : Int} : jI a - (20 : Int32) = jI (a - 20) := by rw [show (20 : Int32) = jI 20 from jI_lit 20]; exact jI_sub a 20
theorem r_add_20 {a : Int} : (20 : Int32) + jI a = jI (20 + a) := by rw [show (20 : Int32) = jI 20 from jI_lit 20]; exact jI_add 20 a
theorem r_mul_20 {a : Int} : (20 : Int32) * jI a = jI (20 * a) := by rw [show (20 : Int32) = jI 20 from jI_lit 20]; exact jI_mul 20 a
theorem q_mul_20 {a : Int} : jI a * (20 : Int32) = jI (a * 20) := by rw [show (20 : Int32) = jI 20 from jI_lit 20]; exact jI_mul a 20
theorem q_div_20 {a : Int} (h1 : -2147483648 ≤ a) (h2 : a < 2147483648) : jI a / (20 : Int32) = jI (a.tdiv 20) := by rw [show (20 : Int32) = jI 20 from jI_lit 20]; exact jI_div ⟨h1, h2⟩ ⟨by decide, by decide⟩ (by omega)
theorem q_rem_20 {a : Int} (h1 : -2147483648 ≤ a) (h2 : a < 2147483648) : ai_rem (jI a) (20 : Int32) = jI (a.tmod 20) := by rw [show (20 : Int32) = jI 20 from jI_lit 20]; exact jI_rem ⟨h1, h2⟩ ⟨by decide, by decide⟩ (by omega)
theorem q_lt_32 {a : Int} (h1 : -2147483648 ≤ a) (h2 : a < 2147483648) : jI a < (32 : Int32) ↔ a < 32 := by rw [show (32 : Int32) = jI 32 from jI_lit 32]; exact jI_lt ⟨h1, h2⟩ ⟨by decide, by decide⟩
theorem r_lt_32 {a : Int} (h1 : -2147483648 ≤ a) (h2 : a < 2147483648) : (32 : Int32) < jI a ↔ 32 < a := by rw [show (32 : Int32) = jI 32 from jI_lit 32]; exact jI_lt ⟨by decide, by decide⟩ ⟨h1, h2⟩
theorem q_le_32 {a : Int} (h1 : -2147483648 ≤ a) (h2 : a < 2147483648) : jI a ≤ (32 : Int32) ↔ a ≤ 32 := by rw [show (32 : Int32) = jI 32 from jI_lit 32]; exact jI_le ⟨h1, h2⟩ ⟨by decide, by decide⟩
theorem r_le_32 {a : Int} (h1 : -2147483648 ≤ a) (h2 : a < 2147483648) : (32 : Int32) ≤ jI a ↔ 32 ≤ a := by rw [show (32 : Int32) = jI 32 from jI_lit 32]; exact jI_le ⟨by decide, by decide⟩ ⟨h1, h2⟩
theorem q_eq_32 {a : Int} (h1 : -2147483648 ≤ a) (h2 : a < 2147483648) : jI a = (32 : Int32) ↔ a = 32 := by rw [show (32 : Int32) = jI 32 from jI_lit 32]; exact jI_eq ⟨h1, h2⟩ ⟨by decide, by decide⟩
theorem q_add_32 {a : Int} : jI a + (32 : Int32) = jI (a + 32) := by rw [show (32 : Int32) = jI 32 from jI_lit 32]; exact jI_add a 32
theorem q_sub_32 {a : Int} : jI a - (32 : Int32) = jI (a - 32) := by rw [show (32 : Int32) = jI 32 from jI_lit 32]; exact jI_sub a 32
theorem r_add_32 {a : Int} : (32 : Int32) + jI a = jI (32 + a) := by rw [show (32 : Int32) = jI 32 from jI_lit 32]; exact jI_add 32 a
theorem r_mul_32 {a : Int} : (32 : Int32) * jI a = jI (32 * a) := by rw [show (32 : Int32) = jI 32 from jI_lit 32]; exact jI_mul 32 a
theorem q_mul_32 {a : Int} : jI a * (32 : Int32) = jI (a * 32) := by rw [show (32 : Int32) = jI 32 from jI_lit 32]; exact jI_mul a 32
theorem q_div_32 {a : Int} (h1 : -2147483648 ≤ a) (h2 : a < 2147483648) : jI a / (32 : Int32) = jI (a.tdiv 32) := by rw [show (32 : Int32) = jI 32 from jI_lit 32]; exact jI_div ⟨h1, h2⟩ ⟨by decide, by decide⟩ (by omega)
theorem q_rem_32 {a : Int} (h1 : -2147483648 ≤ a) (h2 : a < 2147483648) : ai_rem (jI a) (32 : Int32) = jI (a.tmod 32) := by rw [show (32 : Int32) = jI 32 from jI_lit 32]; exact jI_rem ⟨h1, h2⟩ ⟨by decide, by decide⟩ (by omega)
theorem q_lt_35 {a : Int} (h1 : -2147483648 ≤ a) (h2 : a < 2147483648) : jI a < (35 : Int32) ↔ a < 35 := by rw [show (35 : Int32) = jI 35 from jI_lit 35]; exact jI_lt ⟨h1, h2⟩ ⟨by decide, by decide⟩
theorem r_lt_35 {a : Int} (h1 : -2147483648 ≤ a) (h2 : a < 2147483648) : (35 : Int32) < jI a ↔ 35 < a := by rw [show (35 : Int32) = jI 35 from jI_lit 35]; exact jI_lt ⟨by decide, by decide⟩ ⟨h1, h2⟩
theorem q_le_35 {a : Int} (h1 : -2147483648 ≤ a) (h2 : a < 2147483648) : jI a ≤ (35 : Int32) ↔ a ≤ 35 := by rw [show (35 : Int32) = jI 35 from jI_lit 35]; exact jI_le ⟨h1, h2⟩ ⟨by decide, by decide⟩
theorem r_le_35 {a : Int} (h1 : -2147483648 ≤ a) (h2 : a < 2147483648) : (35 : Int32) ≤ jI a ↔ 35 ≤ a := by rw [show (35 : Int32) = jI 35 from jI_lit 35]; exact jI_le ⟨by decide, by decide⟩ ⟨h1, h2⟩
theorem q_eq_35 {a : Int} (h1 : -2147483648 ≤ a) (h2 : a < 2147483648) : jI a = (35 : Int32) ↔ a = 35 := by rw [show (35 : Int32) = jI 35 from jI_lit 35]; exact jI_eq ⟨h1, h2⟩ ⟨by decide, by decide⟩
theorem q_add_35 {a : Int} : jI a + (35 : Int32) = jI (a + 35) := by rw [show (35 : Int32) = jI 35 from jI_lit 35]; exact jI_add a 35
theorem q_sub_35 {a : Int} : jI a - (35 : Int32) = jI (a - 35) := by rw [show (35 : Int32) = jI 35 from jI_lit 35]; exact jI_sub a 35
theorem r_add_35 {a : Int} : (35 : Int32) + jI a = jI (35 + a) := by rw [show (35 : Int32) = jI 35 from jI_lit 35]; exact jI_add 35 a
theorem r_mul_35 {a : Int} : (35 : Int32) * jI a = jI (35 * a) := by rw [show (35 : Int32) = jI 35 from jI_lit 35]; exact jI_mul 35 a
theorem q_mul_35 {a : Int} : jI a * (35 : Int32) = jI (a * 35) := by rw [show (35 : Int32) = jI 35 from jI_lit 35]; exact jI_mul a 35
theorem q_div_35 {a : Int} (h1 : -2147483648 ≤ a) (h2 : a < 2147483648) : jI a / (35 : Int32) = jI (a.tdiv 35) := by rw [show (35 : Int32) = jI 35 from jI_lit 35]; exact jI_div ⟨h1, h2⟩ ⟨by decide, by decide⟩ (by omega)
theorem q_rem_35 {a : Int} (h1 : -2147483648 ≤ a) (h2 : a < 2147483648) : ai_rem (jI a) (35 : Int32) = jI (a.tmod 35) := by rw [show (35 : Int32) = jI 35 from jI_lit 35]; exact jI_rem ⟨h1, h2⟩ ⟨by decide, by decide⟩ (by omega)
theorem q_lt_38 {a : Int} (h1 : -2147483648 ≤ a) (h2 : a < 2147483648) : jI a < (38 : Int32) ↔ a < 38 := by rw [show (38 : Int32) = jI 38 from jI_lit 38]; exact jI_lt ⟨h1, h2⟩ ⟨by decide, by decide⟩
theorem r_lt_38 {a : Int} (h1 : -2147483648 ≤ a) (h2 : a < 2147483648) : (38 : Int32) < jI a ↔ 38 < a := by rw [show (38 : Int32) = jI 38 from jI_lit 38]; exact jI_lt ⟨by decide, by decide⟩ ⟨h1, h2⟩
theorem q_le_38 {a : Int} (h1 : -2147483648 ≤ a) (h2 : a < 2147483648) : jI a ≤ (38 : Int32) ↔ a ≤ 38 := by rw [show (38 : Int32) = jI 38 from jI_lit 38]; exact jI_le ⟨h1, h2⟩ ⟨by decide, by decide⟩
theorem r_le_38 {a : Int} (h1 : -2147483648 ≤ a) (h2 : a < 2147483648) : (38 : Int32) ≤ jI a ↔ 38 ≤ a := by rw [show (38 : Int32) = jI 38 from jI_lit 38]; exact jI_le ⟨by decide, by decide⟩ ⟨h1, h2⟩
theorem q_eq_38 {a : Int} (h1 : -2147483648 ≤ a) (h2 : a < 2147483648) : jI a = (38 : Int32) ↔ a = 38 := by rw [show (38 : Int32) = jI 38 from jI_lit 38]; exact jI_eq ⟨h1, h2⟩ ⟨by decide, by decide⟩
theorem q_add_38 {a : Int} : jI a + (38 : Int32) = jI (a + 38) := by rw [show (38 : Int32) = jI 38 from jI_lit 38]; exact jI_add a 38
theorem q_sub_38 {a : Int} : jI a - (38 : Int32) = jI (a - 38) := by rw [show (38 : Int32) = jI 38 from jI_lit 38]; exact jI_sub a 38
theorem r_add_38 {a : Int} : (38 : Int32) + jI a = jI (38 + a) := by rw [show (38 : Int32) = jI 38 from jI_lit 38]; exact jI_add 38 a
theorem r_mul_38 {a : Int} : (38 : Int32) * jI a = jI (38 * a) := by rw [show (38 : Int32) = jI 38 from jI_lit 38]; exact jI_mul 38 a
theorem q_mul_38 {a : Int} : jI a * (38 : Int32) = jI (a * 38) := by rw [show (38 : Int32) = jI 38 from jI_lit 38]; exact jI_mul a 38
theorem q_div_38 {a : Int} (h1 : -2147483648 ≤ a) (h2 : a < 2147483648) : jI a / (38 : Int32) = jI (a.tdiv 38) := by rw [show (38 : Int32) = jI 38 from jI_lit 38]; exact jI_div ⟨h1, h2⟩ ⟨by decide, by decide⟩ (by omega)
theorem q_rem_38 {a : Int} (h1 : -2147483648 ≤ a) (h2 : a < 2147483648) : ai_rem (jI a) (38 : Int32) = jI (a.tmod 38) := by rw [show (38 : Int32) = jI 38 from jI_lit 38]; exact jI_rem ⟨h1, h2⟩ ⟨by decide, by decide⟩ (by omega)
theorem q_lt_39 {a : Int} (h1 : -2147483648 ≤ a) (h2 : a < 2147483648) : jI a < (39 : Int32) ↔ a < 39 := by rw [show (39 : Int32) = jI 39 from jI_lit 39]; exact jI_lt ⟨h1, h2⟩ ⟨by decide, by decide⟩
theorem r_lt_39 {a : Int} (h1 : -2147483648 ≤ a) (h2 : a < 2147483648) : (39 : Int32) < jI a ↔ 39 < a := by rw [show (39 : Int32) = jI 39 from jI_lit 39]; exact jI_lt ⟨by decide, by decide⟩ ⟨h1, h2⟩
theorem q_le_39 {a : Int} (h1 : -2147483648 ≤ a) (h2 : a < 2147483648) : jI a ≤ (39 : Int32) ↔ a ≤ 39 := by rw [show (39 : Int32) = jI 39 from jI_lit 39]; exact jI_le ⟨h1, h2⟩ ⟨by decide, by decide⟩
theorem r_le_39 {a : Int} (h1 : -2147483648 ≤ a) (h2 : a < 2147483648) : (39 : Int32) ≤ jI a ↔ 39 ≤ a := by rw [show (39 : Int32) = jI 39 from jI_lit 39]; exact jI_le ⟨by decide, by decide⟩ ⟨h1, h2⟩
theorem q_eq_39 {a : Int} (h1 : -2147483648 ≤ a) (h2 : a < 2147483648) : jI a = (39 : Int32) ↔ a = 39 := by rw [show (39 : Int32) = jI 39 from jI_lit 39]; exact jI_eq ⟨h1, h2⟩ ⟨by decide, by decide⟩
theorem q_add_39 {a : Int} : jI a + (39 : Int32) = jI (a + 39) := by rw [show (39 : Int32) = jI 39 from jI_lit 39]; exact jI_add a 39
theorem q_sub_39 {a : Int} : jI a - (39 : Int32) = jI (a - 39) := by rw [show (39 : Int32) = jI 39 from jI_lit 39]; exact jI_sub a 39
theorem r_add_39 {a : Int} : (39 : Int32) + jI a = jI (39 + a) := by rw [show (39 : Int32) = jI 39 from jI_lit 39]; exact jI_add 39 a
theorem r_mul_39 {a : Int} : (39 : Int32) * jI a = jI (39 * a) := by rw [show (39 : Int32) = jI 39 from jI_lit 39]; exact jI_mul 39 a
theorem q_mul_39 {a : Int} : jI a * (39 : Int32) = jI (a * 39) := by rw [show (39 : Int32) = jI 39 from jI_lit 39]; exact jI_mul a 39
theorem q_div_39 {a : Int} (h1 : -2147483648 ≤ a) (h2 : a < 2147483648) : jI a / (39 : Int32) = jI (a.tdiv 39) := by rw [show (39 : Int32) = jI 39 from jI_lit 39]; exact jI_div ⟨h1, h2⟩ ⟨by decide, by decide⟩ (by omega)
theorem q_rem_39 {a : Int} (h1 : -2147483648 ≤ a) (h2 : a < 2147483648) : ai_rem (jI a) (39 : Int32) = jI (a.tmod 39) := by rw [show (39 : Int32) = jI 39 from jI_lit 39]; exact jI_rem ⟨h1, h2⟩ ⟨by decide, by decide⟩ (by omega)
theorem q_lt_40 {a : Int} (h1 : -2147483648 ≤ a) (h2 : a < 2147483648) : jI a < (40 : Int32) ↔ a < 40 := by rw [show (40 : Int32) = jI 40 from jI_lit 40]; exact jI_lt ⟨h1, h2⟩ ⟨by decide, by decide⟩
theorem r_lt_40 {a : Int} (h1 : -2147483648 ≤ a) (h2 : a < 2147483648) : (40 : Int32) < jI a ↔ 40 < a := by rw [show (40 : Int32) = jI 40 from jI_lit 40]; exact jI_lt ⟨by decide, by decide⟩ ⟨h1, h2⟩
theorem q_le_40 {a : Int} (h1 : -2147483648 ≤ a) (h2 : a < 2147483648) : jI a ≤ (40 : Int32) ↔ a ≤ 40 := by rw [show (40 : Int32) = jI 40 from jI_lit 40]; exact jI_le ⟨h1, h2⟩ ⟨by decide, by decide⟩
theorem r_le_40 {a : Int} (h1 : -2147483648 ≤ a) (h2 : a < 2147483648) : (40 : Int32) ≤ jI a ↔ 40 ≤ a := by rw [show (40 : Int32) = jI 40 from jI_lit 40]; exact jI_le ⟨by decide, by decide⟩ ⟨h1, h2⟩
theorem q_eq_40 {a : Int} (h1 : -2147483648 ≤ a) (h2 : a < 2147483648) : jI a = (40 : Int32) ↔ a = 40 := by rw [show (40 : Int32) = jI 40 from jI_lit 40]; exact jI_eq ⟨h1, h2⟩ ⟨by decide, by decide⟩
theorem q_add_40 {a : Int} : jI a + (40 : Int32) = jI (a + 40) := by rw [show (40 : Int32) = jI 40 from jI_lit 40]; exact jI_add a 40
theorem q_sub_40 {a : Int} : jI a - (40 : Int32) = jI (a - 40) := by rw [show (40 : Int32) = jI 40 from jI_lit 40]; exact jI_sub a 40
theorem r_add_40 {a : Int} : (40 : Int32) + jI a = jI (40 + a) := by rw [show (40 : Int32) = jI 40 from jI_lit 40]; exact jI_add 40 a
theorem r_mul_40 {a : Int} : (40 : Int32) * jI a = jI (40 * a) := by rw [show (40 : Int32) = jI 40 from jI_lit 40]; exact jI_mul 40 a
theorem q_mul_40 {a : Int} : jI a * (40 : Int32) = jI (a * 40) := by rw [show (40 : Int32) = jI 40 from jI_lit 40]; exact jI_mul a 40
theorem q_div_40 {a : Int} (h1 : -2147483648 ≤ a) (h2 : a < 2147483648) : jI a / (40 : Int32) = jI (a.tdiv 40) := by rw [show (40 : Int32) = jI 40 from jI_lit 40]; exact jI_div ⟨h1, h2⟩ ⟨by decide, by decide⟩ (by omega)
theorem q_rem_40 {a : Int} (h1 : -2147483648 ≤ a) (h2 : a < 2147483648) : ai_rem (jI a) (40 : Int32) = jI (a.tmod 40) := by rw [show (40 : Int32) = jI 40 from jI_lit 40]; exact jI_rem ⟨h1, h2⟩ ⟨by decide, by decide⟩ (by omega)
theorem q_lt_41 {a : Int} (h1 : -2147483648 ≤ a) (h2 : a < 2147483648) : jI a < (41 : Int32) ↔ a < 41 := by rw [show (41 : Int32) = jI 41 from jI_lit 41]; exact jI_lt ⟨h1, h2⟩ ⟨by decide, by decide⟩
theorem r_lt_41 {a : Int} (h1 : -2147483648 ≤ a) (h2 : a < 2147483648) : (41 : Int32) < jI a ↔ 41 < a := by rw [show (41 : Int32) = jI 41 from jI_lit 41]; exact jI_lt ⟨by decide, by decide⟩ ⟨h1, h2⟩
theorem q_le_41 {a : Int} (h1 : -2147483648 ≤ a) (h2 : a < 2147483648) : jI a ≤ (41 : Int32) ↔ a ≤ 41 := by rw [show (41 : Int32) = jI 41 from jI_lit 41]; exact jI_le ⟨h1, h2⟩ ⟨by decide, by decide⟩
theorem r_le_41 {a : Int} (h1 : -2147483648 ≤ a) (h2 : a < 2147483648) : (41 : Int32) ≤ jI a ↔ 41 ≤ a := by rw [show (41 : Int32) = jI 41 from jI_lit 41]; exact jI_le ⟨by decide, by decide⟩ ⟨h1, h2⟩
theorem q_eq_41 {a : Int} (h1 : -2147483648 ≤ a) (h2 : a < 2147483648) : jI a = (41 : Int32) ↔ a = 41 := by rw [show (41 : Int32) = jI 41 from jI_lit 41]; exact jI_eq ⟨h1, h2⟩ ⟨by decide, by decide⟩
theorem q_add_41 {a : Int} : jI a + (41 : Int32) = jI (a + 41) := by rw [show (41 : Int32) = jI 41 from jI_lit 41]; exact jI_add a 41
theorem q_sub_41 {a : Int} : jI a - (41 : Int32) = jI (a - 41) := by rw [show (41 : Int32) = jI 41 from jI_lit 41]; exact jI_sub a 41
theorem r_add_41 {a : Int} : (41 : Int32) + jI a = jI (41 + a) := by rw [show (41 : Int32) = jI 41 from jI_lit 41]; exact jI_add 41 a
theorem r_mul_41 {a : Int} : (41 : Int32) * jI a = jI (41 * a) := by rw [show (41 : Int32) = jI 41 from jI_lit 41]; exact jI_mul 41 a
theorem q_mul_41 {a : Int} : jI a * (41 : Int32) = jI (a * 41) := by rw [show (41 : Int32) = jI 41 from jI_lit 41]; exact jI_mul a 41
theorem q_div_41 {a : Int} (h1 : -2147483648 ≤ a) (h2 : a < 2147483648) : jI a / (41 : Int32) = jI (a.tdiv 41) := by rw [show (41 : Int32) = jI 41 from jI_lit 41]; exact jI_div ⟨h1, h2⟩ ⟨by decide, by decide⟩ (by omega)
theorem q_rem_41 {a : Int} (h1 : -2147483648 ≤ a) (h2 : a < 2147483648) : ai_rem (jI a) (41 : Int32) = jI (a.tmod 41) := by rw [show (41 : Int32) = jI 41 from jI_lit 41]; exact jI_rem ⟨h1, h2⟩ ⟨by decide, by decide⟩ (by omega)
theorem q_lt_42 {a : Int} (h1 : -2147483648 ≤ a) (h2 : a < 2147483648) : jI a < (42 : Int32) ↔ a < 42 := by rw [show (42 : Int32) = jI 42 from jI_lit 42]; exact jI_lt ⟨h1, h2⟩ ⟨by decide, by decide⟩
theorem r_lt_42 {a : Int} (h1 : -2147483648 ≤ a) (h2 : a < 2147483648) : (42 : Int32) < jI a ↔ 42 < a := by rw [show (42 : Int32) = jI 42 from jI_lit 42]; exact jI_lt ⟨by decide, by decide⟩ ⟨h1, h2⟩
theorem q_le_42 {a : Int} (h1 : -2147483648 ≤ a) (h2 : a < 2147483648) : jI a ≤ (42 : Int32) ↔ a ≤ 42 := by rw [show (42 : Int32) = jI 42 from jI_lit 42]; exact jI_le ⟨h1, h2⟩ ⟨by decide, by decide⟩
theorem r_le_42 {a : Int} (h1 : -2147483648 ≤ a) (h2 : a < 2147483648) : (42 : Int32) ≤ jI a ↔ 42 ≤ a := by rw [show (42 : Int32) = jI 42 from jI_lit 42]; exact jI_le ⟨by decide, by decide⟩ ⟨h1, h2⟩
theorem q_eq_42 {a : Int} (h1 : -2147483648 ≤ a) (h2 : a < 2147483648) : jI a = (42 : Int32) ↔ a = 42 := by rw [show (42 : Int32) = jI 42 from jI_lit 42]; exact jI_eq ⟨h1, h2⟩ ⟨by decide, by decide⟩
theorem q_add_42 {a : Int} : jI a + (42 : Int32) = jI (a + 42) := by rw [show (42 : Int32) = jI 42 from jI_lit 42]; exact jI_add a 42
theorem q_sub_42 {a : Int} : jI a - (42 : Int32) = jI (a - 42) := by rw [show (42 : Int32) = jI 42 from jI_lit 42]; exact jI_sub a 42
theorem r_add_42 {a : Int} : (42 : Int32) + jI a = jI (42 + a) := by rw [show (42 : Int32) = jI 42 from jI_lit 42]; exact jI_add 42 a
theorem r_mul_42 {a : Int} : (42 : Int32) * jI a = jI (42 * a) := by rw [show (42 : Int32) = jI 42 from jI_lit 42]; exact jI_mul 42 a
theorem q_mul_42 {a : Int} : jI a * (42 : Int32) = jI (a * 42) := by rw [show (42 : Int32) = jI 42 from jI_lit 42]; exact jI_mul a 42
theorem q_div_42 {a : Int} (h1 : -2147483648 ≤ a) (h2 : a < 2147483648) : jI a / (42 : Int32) = jI (a.tdiv 42) := by rw [show (42 : Int32) = jI 42 from jI_lit 42]; exact jI_div ⟨h1, h2⟩ ⟨by decide, by decide⟩ (by omega)
theorem q_rem_42 {a : Int} (h1 : -2147483648 ≤ a) (h2 : a < 2147483648) : ai_rem (jI a) (42 : Int32) = jI (a.tmod 42) := by rw [show (42 : Int32) = jI 42 from jI_lit 42]; exact jI_rem ⟨h1, h2⟩ ⟨by decide, by decide⟩ (by omega)
theorem q_lt_43 {a : Int} (h1 : -2147483648 ≤ a) (h2 : a < 2147483648) : jI a < (43 : Int32) ↔ a < 43 := by rw [show (43 : Int32) = jI 43 from jI_lit 43]; exact jI_lt ⟨h1, h2⟩ ⟨by decide, by decide⟩
theorem r_lt_43 {a : Int} (h1 : -2147483648 ≤ a) (h2 : a < 2147483648) : (43 : Int32) < jI a ↔ 43 < a := by rw [show (43 : Int32) = jI 43 from jI_lit 43]; exact jI_lt ⟨by decide, by decide⟩ ⟨h1, h2⟩
theorem q_le_43 {a : Int} (h1 : -2147483648 ≤ a) (h2 : a < 2147483648) : jI a ≤ (43 : Int32) ↔ a ≤ 43 := by rw [show (43 : Int32) = jI 43 from jI_lit 43]; exact jI_le ⟨h1, h2⟩ ⟨by decide, by decide⟩
theorem r_le_43 {a : Int} (h1 : -2147483648 ≤ a) (h2 : a < 2147483648) : (43 : Int32) ≤ jI a ↔ 43 ≤ a := by rw [show (43 : Int32) = jI 43 from jI_lit 43]; exact jI_le ⟨by decide, by decide⟩ ⟨h1, h2⟩
theorem q_eq_43 {a : Int} (h1 : -2147483648 ≤ a) (h2 : a < 2147483648) : jI a = (43 : Int32) ↔ a = 43 := by rw [show (43 : Int32) = jI 43 from jI_lit 43]; exact jI_eq ⟨h1, h2⟩ ⟨by decide, by decide⟩
theorem q_add_43 {a : Int} : jI a + (43 : Int32) = jI (a + 43) := by rw [show (43 : Int32) = jI 43 from jI_lit 43]; exact jI_add a 43
theorem q_sub_43 {a : Int} : jI a - (43 : Int32) = jI (a - 43) := by rw [show (43 : Int32) = jI 43 from jI_lit 43]; exact jI_sub a 43
theorem r_add_43 {a : Int} : (43 : Int32) + jI a = jI (43 + a) := by rw [show (43 : Int32) = jI 43 from jI_lit 43]; exact jI_add 43 a
theorem r_mul_43 {a : Int} : (43 : Int32) * jI a = jI (43 * a) := by rw [show (43 : Int32) = jI 43 from jI_lit 43]; exact jI_mul 43 a
theorem q_mul_43 {a : Int} : jI a * (43 : Int32) = jI (a * 43) := by rw [show (43 : Int32) = jI 43 from jI_lit 43]; exact jI_mul a 43
theorem q_div_43 {a : Int} (h1 : -2147483648 ≤ a) (h2 : a < 2147483648) : jI a / (43 : Int32) = jI (a.tdiv 43) := by rw [show (43 : Int32) = jI 43 from jI_lit 43]; exact jI_div ⟨h1, h2⟩ ⟨by decide, by decide⟩ (by omega)
theorem q_rem_43 {a : Int} (h1 : -2147483648 ≤ a) (h2 : a < 2147483648) : ai_rem (jI a) (43 : Int32) = jI (a.tmod 43) := by rw [show (43 : Int32) = jI 43 from jI_lit 43]; exact jI_rem ⟨h1, h2⟩ ⟨by decide, by decide⟩ (by omega)
theorem q_lt_45 {a : Int} (h1 : -2147483648 ≤ a) (h2 : a < 2147483648) : jI a < (45 : Int32) ↔ a < 45 := by rw [show (45 : Int32) = jI 45 from jI_lit 45]; exact jI_lt ⟨h1, h2⟩ ⟨by decide, by decide⟩
theorem r_lt_45 {a : Int} (h1 : -2147483648 ≤ a) (h2 : a < 2147483648) : (45 : Int32) < jI a ↔ 45 < a := by rw [show (45 : Int32) = jI 45 from jI_lit 45]; exact jI_lt ⟨by decide, by decide⟩ ⟨h1, h2⟩
theorem q_le_45 {a : Int} (h1 : -2147483648 ≤ a) (h2 : a < 2147483648) : jI a ≤ (45 : Int32) ↔ a ≤ 45 := by rw [show (45 : Int32) = jI 45 from jI_lit 45]; exact jI_le ⟨h1, h2⟩ ⟨by decide, by decide⟩
theorem r_le_45 {a : Int} (h1 : -2147483648 ≤ a) (h2 : a < 2147483648) : (45 : Int32) ≤ jI a ↔ 45 ≤ a := by rw [show (45 : Int32) = jI 45 from jI_lit 45]; exact jI_le ⟨by decide, by decide⟩ ⟨h1, h2⟩
theorem q_eq_45 {a : Int} (h1 : -2147483648 ≤ a) (h2 : a < 2147483648) : jI a = (45 : Int32) ↔ a = 45 := by rw [show (45 : Int32) = jI 45 from jI_lit 45]; exact jI_eq ⟨h1, h2⟩ ⟨by decide, by decide⟩
theorem q_add_45 {a : Int} : jI a + (45 : Int32) = jI (a + 45) := by rw [show (45 : Int32) = jI 45 from jI_lit 45]; exact jI_add a 45
theorem q_sub_45 {a : Int} : jI a - (45 : Int32) = jI (a - 45) := by rw [show (45 : Int32) = jI 45 from jI_lit 45]; exact jI_sub a 45
theorem r_add_45 {a : Int} : (45 : Int32) + jI a = jI (45 + a) := by rw [show (45 : Int32) = jI 45 from jI_lit 45]; exact jI_add 45 a
theorem r_mul_45 {a : Int} : (45 : Int32) * jI a = jI (45 * a) := by rw [show (45 : Int32) = jI 45 from jI_lit 45]; exact jI_mul 45 a
theorem q_mul_45 {a : Int} : jI a * (45 : Int32) = jI (a * 45) := by rw [show (45 : Int32) = jI 45 from jI_lit 45]; exact jI_mul a 45
theorem q_div_45 {a : Int} (h1 : -2147483648 ≤ a) (h2 : a < 2147483648) : jI a / (45 : Int32) = jI (a.tdiv 45) := by rw [show (45 : Int32) = jI 45 from jI_lit 45]; exact jI_div ⟨h1, h2⟩ ⟨by decide, by decide⟩ (by omega)
theorem q_rem_45 {a : Int} (h1 : -2147483648 ≤ a) (h2 : a < 2147483648) : ai_rem (jI a) (45 : Int32) = jI (a.tmod 45) := by rw [show (45 : Int32) = jI 45 from jI_lit 45]; exact jI_rem ⟨h1, h2⟩ ⟨by decide, by decide⟩ (by omega)
theorem q_lt_48 {a : Int} (h1 : -2147483648 ≤ a) (h2 : a < 2147483648) : jI a < (48 : Int32) ↔ a < 48 := by rw [show (48 : Int32) = jI 48 from jI_lit 48]; exact jI_lt ⟨h1, h2⟩ ⟨by decide, by decide⟩
theorem r_lt_48 {a : Int} (h1 : -2147483648 ≤ a) (h2 : a < 2147483648) : (48 : Int32) < jI a ↔ 48 < a := by rw [show (48 : Int32) = jI 48 from jI_lit 48]; exact jI_lt ⟨by decide, by decide⟩ ⟨h1, h2⟩
theorem q_le_48 {a : Int} (h1 : -2147483648 ≤ a) (h2 : a < 2147483648) : jI a ≤ (48 : Int32) ↔ a ≤ 48 := by rw [show (48 : Int32) = jI 48 from jI_lit 48]; exact jI_le ⟨h1, h2⟩ ⟨by decide, by decide⟩
theorem r_le_48 {a : Int} (h1 : -2147483648 ≤ a) (h2 : a < 2147483648) : (48 : Int32) ≤ jI a ↔ 48 ≤ a := by rw [show (48 : Int32) = jI 48 from jI_lit 48]; exact jI_le ⟨by decide, by decide⟩ ⟨h1, h2⟩
theorem q_eq_48 {a : Int} (h1 : -2147483648 ≤ a) (h2 : a < 2147483648) : jI a = (48 : Int32) ↔ a = 48 := by rw [show (48 : Int32) = jI 48 from jI_lit 48]; exact jI_eq ⟨h1, h2⟩ ⟨by decide, by decide⟩
theorem q_add_48 {a : Int} : jI a + (48 : Int32) = jI (a + 48) := by rw [show (48 : Int32) = jI 48 from jI_lit 48]; exact jI_add a 48
theorem q_sub_48 {a : Int} : jI a - (48 : Int32) = jI (a - 48) := by rw [show (48 : Int32) = jI 48 from jI_lit 48]; exact jI_sub a 48
theorem r_add_48 {a : Int} : (48 : Int32) + jI a = jI (48 + a) := by rw [show (48 : Int32) = jI 48 from jI_lit 48]; exact jI_add 48 a
theorem r_mul_48 {a : Int} : (48 : Int32) * jI a = jI (48 * a) := by rw [show (48 : Int32) = jI 48 from jI_lit 48]; exact jI_mul 48 a
theorem q_mul_48 {a : Int} : jI a * (48 : Int32) = jI (a * 48) := by rw [show (48 : Int32) = jI 48 from jI_lit 48]; exact jI_mul a 48
theorem q_div_48 {a : Int} (h1 : -2147483648 ≤ a) (h2 : a < 2147483648) : jI a / (48 : Int32) = jI (a.tdiv 48) := by rw [show (48 : Int32) = jI 48 from jI_lit 48]; exact jI_div ⟨h1, h2⟩ ⟨by decide, by decide⟩ (by omega)
theorem q_rem_48 {a : Int} (h1 : -2147483648 ≤ a) (h2 : a < 2147483648) : ai_rem (jI a) (48 : Int32) = jI (a.tmod 48) := by rw [show (48 : Int32) = jI 48 from jI_lit 48]; exact jI_rem ⟨h1, h2⟩ ⟨by decide, by decide⟩ (by omega)
theorem q_lt_50 {a : Int} (h1 : -2147483648 ≤ a) (h2 : a < 2147483648) : jI a < (50 : Int32) ↔ a < 50 := by rw [show (50 : Int32) = jI 50 from jI_lit 50]; exact jI_lt ⟨h1, h2⟩ ⟨by decide, by decide⟩
theorem r_lt_50 {a : Int} (h1 : -2147483648 ≤ a) (h2 : a < 2147483648) : (50 : Int32) < jI a ↔ 50 < a := by rw [show (50 : Int32) = jI 50 from jI_lit 50]; exact jI_lt ⟨by decide, by decide⟩ ⟨h1, h2⟩
theorem q_le_50 {a : Int} (h1 : -2147483648 ≤ a) (h2 : a < 2147483648) : jI a ≤ (50 : Int32) ↔ a ≤ 50 := by rw [show (50 : Int32) = jI 50 from jI_lit 50]; exact jI_le ⟨h1, h2⟩ ⟨by decide, by decide⟩
theorem r_le_50 {a : Int} (h1 : -2147483648 ≤ a) (h2 : a < 2147483648) : (50 : Int32) ≤ jI a ↔ 50 ≤ a := by rw [show (50 : Int32) = jI 50 from jI_lit 50]; exact jI_le ⟨by decide, by decide⟩ ⟨h1, h2⟩
theorem q_eq_50 {a : Int} (h1 : -2147483648 ≤ a) (h2 : a < 2147483648) : jI a = (50 : Int32) ↔ a = 50 := by rw [show (50 : Int32) = jI 50 from jI_lit 50]; exact jI_eq ⟨h1, h2⟩ ⟨by decide, by decide⟩
theorem q_add_50 {a : Int} : jI a + (50 : Int32) = jI (a + 50) := by rw [show (50 : Int32) = jI 50 from jI_lit 50]; exact jI_add a 50
theorem q_sub_50 {a : Int} : jI a - (50 : Int32) = jI (a - 50) := by rw [show (50 : Int32) = jI 50 from jI_lit 50]; exact jI_sub a 50
theorem r_add_50 {a : Int} : (50 : Int32) + jI a = jI (50 + a) := by rw [show (50 : Int32) = jI 50 from jI_lit 50]; exact jI_add 50 a
theorem r_mul_50 {a : Int} : (50 : Int32) * jI a = jI (50 * a) := by rw [show (50 : Int32) = jI 50 from jI_lit 50]; exact jI_mul 50 a
theorem q_mul_50 {a : Int} : jI a * (50 : Int32) = jI (a * 50) := by rw [show (50 : Int32) = jI 50 from jI_lit 50]; exact jI_mul a 50
theorem q_div_50 {a : Int} (h1 : -2147483648 ≤ a) (h2 : a < 2147483648) : jI a / (50 : Int32) = jI (a.tdiv 50) := by rw [show (50 : Int32) = jI 50 from jI_lit 50]; exact jI_div ⟨h1, h2⟩ ⟨by decide, by decide⟩ (by omega)
theorem q_rem_50 {a : Int} (h1 : -2147483648 ≤ a) (h2 : a < 2147483648) : ai_rem (jI a) (50 : Int32) = jI (a.tmod 50) := by rw [show (50 : Int32) = jI 50 from jI_lit 50]; exact jI_rem ⟨h1, h2⟩ ⟨by decide, by decide⟩ (by omega)
theorem q_lt_57 {a : Int} (h1 : -2147483648 ≤ a) (h2 : a < 2147483648) : jI a < (57 : Int32) ↔ a < 57 := by rw [show (57 : Int32) = jI 57 from jI_lit 57]; exact jI_lt ⟨h1, h2⟩ ⟨by decide, by decide⟩
theorem r_lt_57 {a : Int} (h1 : -2147483648 ≤ a) (h2 : a < 2147483648) : (57 : Int32) < jI a ↔ 57 < a := by rw [show (57 : Int32) = jI 57 from jI_lit 57]; exact jI_lt ⟨by decide, by decide⟩ ⟨h1, h2⟩
theorem q_le_57 {a : Int} (h1 : -2147483648 ≤ a) (h2 : a < 2147483648) : jI a ≤ (57 : Int32) ↔ a ≤ 57 := by rw [show (57 : Int32) = jI 57 from jI_lit 57]; exact jI_le ⟨h1, h2⟩ ⟨by decide, by decide⟩
theorem r_le_57 {a : Int} (h1 : -2147483648 ≤ a) (h2 : a < 2147483648) : (57 : Int32) ≤ jI a ↔ 57 ≤ a := by rw [show (57 : Int32) = jI 57 from jI_lit 57]; exact jI_le ⟨by decide, by decide⟩ ⟨h1, h2⟩
theorem q_eq_57 {a : Int} (h1 : -2147483648 ≤ a) (h2 : a < 2147483648) : jI a = (57 : Int32) ↔ a = 57 := by rw [show (57 : Int32) = jI 57 from jI_lit 57]; exact jI_eq ⟨h1, h2⟩ ⟨by decide, by decide⟩
theorem q_add_57 {a : Int} : jI a + (57 : Int32) = jI (a + 57) := by rw [show (57 : Int32) = jI 57 from jI_lit 57]; exact jI_add a 57
theorem q_sub_57 {a : Int} : jI a - (57 : Int32) = jI (a - 57) := by rw [show (57 : Int32) = jI 57 from jI_lit 57]; exact jI_sub a 57
theorem r_add_57 {a : Int} : (57 : Int32) + jI a = jI (57 + a) := by rw [show (57 : Int32) = jI 57 from jI_lit 57]; exact jI_add 57 a
theorem r_mul_57 {a : Int} : (57 : Int32) * jI a = jI (57 * a) := by rw [show (57 : Int32) = jI 57 from jI_lit 57]; exact jI_mul 57 a
theorem q_mul_57 {a : Int} : jI a * (57 : Int32) = jI (a * 57) := by rw [show (57 : Int32) = jI 57 from jI_lit 57]; exact jI_mul a 57
theorem q_div_57 {a : Int} (h1 : -2147483648 ≤ a) (h2 : a < 2147483648) : jI a / (57 : Int32) = jI (a.tdiv 57) := by rw [show (57 : Int32) = jI 57 from jI_lit 57]; exact jI_div ⟨h1, h2⟩ ⟨by decide, by decide⟩ (by omega)
theorem q_rem_57 {a : Int} (h1 : -2147483648 ≤ a) (h2 : a < 2147483648) : ai_rem (jI a) (57 : Int32) = jI (a.tmod 57) := by rw [show (57 : Int32) = jI 57 from jI_lit 57]; exact jI_rem ⟨h1, h2⟩ ⟨by decide, by decide⟩ (by omega)
theorem q_lt_59 {a : Int} (h1 : -2147483648 ≤ a) (h2 : a < 2147483648) : jI a < (59 : Int32) ↔ a < 59 := by rw [show (59 : Int32) = jI 59 from jI_lit 59]; exact jI_lt ⟨h1, h2⟩ ⟨by decide, by decide⟩
theorem r_lt_59 {a : Int} (h1 : -2147483648 ≤ a) (h2 : a < 2147483648) : (59 : Int32) < jI a ↔ 59 < a := by rw [show (59 : Int32) = jI 59 from jI_lit 59]; exact jI_lt ⟨by decide, by decide⟩ ⟨h1, h2⟩
theorem q_le_59 {a : Int} (h1 : -2147483648 ≤ a) (h2 : a < 2147483648) : jI a ≤ (59 : Int32) ↔ a ≤ 59 := by rw [show (59 : Int32) = jI 59 from jI_lit 59]; exact jI_le ⟨h1, h2⟩ ⟨by decide, by decide⟩
theorem r_le_59 {a : Int} (h1 : -2147483648 ≤ a) (h2 : a < 2147483648) : (59 : Int32) ≤ jI a ↔ 59 ≤ a := by rw [show (59 : Int32) = jI 59 from jI_lit 59]; exact jI_le ⟨by decide, by decide⟩ ⟨h1, h2⟩
theorem q_eq_59 {a : Int} (h1 : -2147483648 ≤ a) (h2 : a < 2147483648) : jI a = (59 : Int32) ↔ a = 59 := by rw [show (59 : Int32) = jI 59 from jI_lit 59]; exact jI_eq ⟨h1, h2⟩ ⟨by decide, by decide⟩
theorem q_add_59 {a : Int} : jI a + (59 : Int32) = jI (a + 59) := by rw [show (59 : Int32) = jI 59 from jI_lit 59]; exact jI_add a 59
theorem q_sub_59 {a : Int} : jI a - (59 : Int32) = jI (a - 59) := by rw [show (59 : Int32) = jI 59 from jI_lit 59]; exact jI_sub a 59
theorem r_add_59 {a : Int} : (59 : Int32) + jI a = jI (59 + a) := by rw [show (59 : Int32) = jI 59 from jI_lit 59]; exact jI_add 59 a
theorem r_mul_59 {a : Int} : (59 : Int32) * jI a = jI (59 * a) := by rw [show (59 : Int32) = jI 59 from jI_lit 59]; exact jI_mul 59 a
theorem q_mul_59 {a : Int} : jI a * (59 : Int32) = jI (a * 59) := by rw [show (59 : Int32) = jI 59 from jI_lit 59]; exact jI_mul a 59
theorem q_div_59 {a : Int} (h1 : -2147483648 ≤ a) (h2 : a < 2147483648) : jI a / (59 : Int32) = jI (a.tdiv 59) := by rw [show (59 : Int32) = jI 59 from jI_lit 59]; exact jI_div ⟨h1, h2⟩ ⟨by decide, by decide⟩ (by omega)
theorem q_rem_59 {a : Int} (h1 : -2147483648 ≤ a) (h2 : a < 2147483648) : ai_rem (jI a) (59 : Int32) = jI (a.tmod 59) := by rw [show (59 : Int32) = jI 59 from jI_lit 59]; exact jI_rem ⟨h1, h2⟩ ⟨by decide, by decide⟩ (by omega)
theorem q_lt_60 {a : Int} (h1 : -2147483648 ≤ a) (h2 : a < 2147483648) : jI a < (60 : Int32) ↔ a < 60 := by rw [show (60 : Int32) = jI 60 from jI_lit 60]; exact jI_lt ⟨h1, h2⟩ ⟨by decide, by decide⟩
theorem r_lt_60 {a : Int} (h1 : -2147483648 ≤ a) (h2 : a < 2147483648) : (60 : Int32) < jI a ↔ 60 < a := by rw [show (60 : Int32) = jI 60 from jI_lit 60]; exact jI_lt ⟨by decide, by decide⟩ ⟨h1, h2⟩
theorem q_le_60 {a : Int} (h1 : -2147483648 ≤ a) (h2 : a < 2147483648) : jI a ≤ (60 : Int32) ↔ a ≤ 60 := by rw [show (60 : Int32) = jI 60 from jI_lit 60]; exact jI_le ⟨h1, h2⟩ ⟨by decide, by decide⟩
theorem r_le_60 {a : Int} (h1 : -2147483648 ≤ a) (h2 : a < 2147483648) : (60 : Int32) ≤ jI a ↔ 60 ≤ a := by rw [show (60 : Int32) = jI 60 from jI_lit 60]; exact jI_le ⟨by decide, by decide⟩ ⟨h1, h2⟩
theorem q_eq_60 {a : Int} (h1 : -2147483648 ≤ a) (h2 : a < 2147483648) : jI a = (60 : Int32) ↔ a = 60 := by rw [show (60 : Int32) = jI 60 from jI_lit 60]; exact jI_eq ⟨h1, h2⟩ ⟨by decide, by decide⟩
theorem q_add_60 {a : Int} : jI a + (60 : Int32) = jI (a + 60) := by rw [show (60 : Int32) = jI 60 from jI_lit 60]; exact jI_add a 60
theorem q_sub_60 {a : Int} : jI a - (60 : Int32) = jI (a - 60) := by rw [show (60 : Int32) = jI 60 from jI_lit 60]; exact jI_sub a 60
theorem r_add_60 {a : Int} : (60 : Int32) + jI a = jI (60 + a) := by rw [show (60 : Int32) = jI 60 from jI_lit 60]; exact jI_add 60 a
theorem r_mul_60 {a : Int} : (60 : Int32) * jI a = jI (60 * a) := by rw [show (60 : Int32) = jI 60 from jI_lit 60]; exact jI_mul 60 a
theorem q_mul_60 {a : Int} : jI a * (60 : Int32) = jI (a * 60) := by rw [show (60 : Int32) = jI 60 from jI_lit 60]; exact jI_mul a 60
theorem q_div_60 {a : Int} (h1 : -2147483648 ≤ a) (h2 : a < 2147483648) : jI a / (60 : Int32) = jI (a.tdiv 60) := by rw [show (60 : Int32) = jI 60 from jI_lit 60]; exact jI_div ⟨h1, h2⟩ ⟨by decide, by decide⟩ (by omega)
theorem q_rem_60 {a : Int} (h1 : -2147483648 ≤ a) (h2 : a < 2147483648) : ai_rem (jI a) (60 : Int32) = jI (a.tmod 60) := by rw [show (60 : Int32) = jI 60 from jI_lit 60]; exact jI_rem ⟨h1, h2⟩ ⟨by decide, by decide⟩ (by omega)
theorem q_lt_61 {a : Int} (h1 : -2147483648 ≤ a) (h2 : a < 2147483648) : jI a < (61 : Int32) ↔ a < 61 := by rw [show (61 : Int32) = jI 61 from jI_lit 61]; exact jI_lt ⟨h1, h2⟩ ⟨by decide, by decide⟩
theorem r_lt_61 {a : Int} (h1 : -2147483648 ≤ a) (h2 : a < 2147483648) : (61 : Int32) < jI a ↔ 61 < a := by rw [show (61 : Int32) = jI 61 from jI_lit 61]; exact jI_lt ⟨by decide, by decide⟩ ⟨h1, h2⟩
theorem q_le_61 {a : Int} (h1 : -2147483648 ≤ a) (h2 : a < 2147483648) : jI a ≤ (61 : Int32) ↔ a ≤ 61 := by rw [show (61 : Int32) = jI 61 from jI_lit 61]; exact jI_le ⟨h1, h2⟩ ⟨by decide, by decide⟩
theorem r_le_61 {a : Int} (h1 : -2147483648 ≤ a) (h2 : a < 2147483648) : (61 : Int32) ≤ jI a ↔ 61 ≤ a := by rw [show (61 : Int32) = jI 61 from jI_lit 61]; exact jI_le ⟨by decide, by decide⟩ ⟨h1, h2⟩
theorem q_eq_61 {a : Int} (h1 : -2147483648 ≤ a) (h2 : a < 2147483648) : jI a = (61 : Int32) ↔ a = 61 := by rw [show (61 : Int32) = jI 61 from jI_lit 61]; exact jI_eq ⟨h1, h2⟩ ⟨by decide, by decide⟩
theorem q_add_61 {a : Int} : jI a + (61 : Int32) = jI (a + 61) := by rw [show (61 : Int32) = jI 61 from jI_lit 61]; exact jI_add a 61
theorem q_sub_61 {a : Int} : jI a - (61 : Int32) = jI (a - 61) := by rw [show (61 : Int32) = jI 61 from jI_lit 61]; exact jI_sub a 61
theorem r_add_61 {a : Int} : (61 : Int32) + jI a = jI (61 + a) := by rw [show (61 : Int32) = jI 61 from jI_lit 61]; exact jI_add 61 a
theorem r_mul_61 {a : Int} : (61 : Int32) * jI a = jI (61 * a) := by rw [show (61 : Int32) = jI 61 from jI_lit 61]; exact jI_mul 61 a
theorem q_mul_61 {a : Int} : jI a * (61 : Int32) = jI (a * 61) := by rw [show (61 : Int32) = jI 61 from jI_lit 61]; exact jI_mul a 61
theorem q_div_61 {a : Int} (h1 : -2147483648 ≤ a) (h2 : a < 2147483648) : jI a / (61 : Int32) = jI (a.tdiv 61) := by rw [show (61 : Int32) = jI 61 from jI_lit 61]; exact jI_div ⟨h1, h2⟩ ⟨by decide, by decide⟩ (by omega)
theorem q_rem_61 {a : Int} (h1 : -2147483648 ≤ a) (h2 : a < 2147483648) : ai_rem (jI a) (61 : Int32) = jI (a.tmod 61) := by rw [show (61 : Int32) = jI 61 from jI_lit 61]; exact jI_rem ⟨h1, h2⟩ ⟨by decide, by decide⟩ (by omega)
theorem q_lt_62 {a : Int} (h1 : -2147483648 ≤ a) (h2 : a < 2147483648) : jI a < (62 : Int32) ↔ a < 62 := by rw [show (62 : Int32) = jI 62 from jI_lit 62]; exact jI_lt ⟨h1, h2⟩ ⟨by decide, by decide⟩
theorem r_lt_62 {a : Int} (h1 : -2147483648 ≤ a) (h2 : a < 2147483648) : (62 : Int32) < jI a ↔ 62 < a := by rw [show (62 : Int32) = jI 62 from jI_lit 62]; exact jI_lt ⟨by decide, by decide⟩ ⟨h1, h2⟩
theorem q_le_62 {a : Int} (h1 : -2147483648 ≤ a) (h2 : a < 2147483648) : jI a ≤ (62 : Int32) ↔ a ≤ 62 := by rw [show (62 : Int32) = jI 62 from jI_lit 62]; exact jI_le ⟨h1, h2⟩ ⟨by decide, by decide⟩
theorem r_le_62 {a : Int} (h1 : -2147483648 ≤ a) (h2 : a < 2147483648) : (62 : Int32) ≤ jI a ↔ 62 ≤ a := by rw [show (62 : Int32) = jI 62 from jI_lit 62]; exact jI_le ⟨by decide, by decide⟩ ⟨h1, h2⟩
theorem q_eq_62 {a : Int} (h1 : -2147483648 ≤ a) (h2 : a < 2147483648) : jI a = (62 : Int32) ↔ a = 62 := by rw [show (62 : Int32) = jI 62 from jI_lit 62]; exact jI_eq ⟨h1, h2⟩ ⟨by decide, by decide⟩
theorem q_add_62 {a : Int} : jI a + (62 : Int32) = jI (a + 62) := by rw [show (62 : Int32) = jI 62 from jI_lit 62]; exact jI_add a 62
theorem q_sub_62 {a : Int} : jI a - (62 : Int32) = jI (a - 62) := by rw [show (62 : Int32) = jI 62 from jI_lit 62]; exact jI_sub a 62
theorem r_add_62 {a : Int} : (62 : Int32) + jI a = jI (62 + a) := by rw [show (62 : Int32) = jI 62 from jI_lit 62]; exact jI_add 62 a
theorem r_mul_62 {a : Int} : (62 : Int32) * jI a = jI (62 * a) := by rw [show (62 : Int32) = jI 62 from jI_lit 62]; exact jI_mul 62 a
theorem q_mul_62 {a : Int} : jI a * (62 : Int32) = jI (a * 62) := by rw [show (62 : Int32) = jI 62 from jI_lit 62]; exact jI_mul a 62
theorem q_div_62 {a : Int} (h1 : -2147483648 ≤ a) (h2 : a < 2147483648) : jI a / (62 : Int32) = jI (a.tdiv 62) := by rw [show (62 : Int32) = jI 62 from jI_lit 62]; exact jI_div ⟨h1, h2⟩ ⟨by decide, by decide⟩ (by omega)
theorem q_rem_62 {a : Int} (h1 : -2147483648 ≤ a) (h2 : a < 2147483648) : ai_rem (jI a) (62 : Int32) = jI (a.tmod 62) := by rw [show (62 : Int32) = jI 62 from jI_lit 62]; exact jI_rem ⟨h1, h2⟩ ⟨by decide, by decide⟩ (by omega)
theorem q_lt_64 {a : Int} (h1 : -2147483648 ≤ a) (h2 : a < 2147483648) : jI a < (64 : Int32) ↔ a < 64 := by rw [show (64 : Int32) = jI 64 from jI_lit 64]; exact jI_lt ⟨h1, h2⟩ ⟨by decide, by decide⟩
theorem r_lt_64 {a : Int} (h1 : -2147483648 ≤ a) (h2 : a < 2147483648) : (64 : Int32) < jI a ↔ 64 < a := by rw [show (64 : Int32) = jI 64 from jI_lit 64]; exact jI_lt ⟨by decide, by decide⟩ ⟨h1, h2⟩
theorem q_le_64 {a : Int} (h1 : -2147483648 ≤ a) (h2 : a < 2147483648) : jI a ≤ (64 : Int32) ↔ a ≤ 64 := by rw [show (64 : Int32) = jI 64 from jI_lit 64]; exact jI_le ⟨h1, h2⟩ ⟨by decide, by decide⟩
theorem r_le_64 {a : Int} (h1 : -2147483648 ≤ a) (h2 : a < 2147483648) : (64 : Int32) ≤ jI a ↔ 64 ≤ a := by rw [show (64 : Int32) = jI 64 from jI_lit 64]; exact jI_le ⟨by decide, by decide⟩ ⟨h1, h2⟩
theorem q_eq_64 {a : Int} (h1 : -2147483648 ≤ a) (h2 : a < 2147483648) : jI a = (64 : Int32) ↔ a = 64 := by rw [show (64 : Int32) = jI 64 from jI_lit 64]; exact jI_eq ⟨h1, h2⟩ ⟨by decide, by decide⟩
theorem q_add_64 {a : Int} : jI a + (64 : Int32) = jI (a + 64) := by rw [show (64 : Int32) = jI 64 from jI_lit 64]; exact jI_add a 64
theorem q_sub_64 {a : Int} : jI a - (64 : Int32) = jI (a - 64) := by rw [show (64 : Int32) = jI 64 from jI_lit 64]; exact jI_sub a 64
theorem r_add_64 {a : Int} : (64 : Int32) + jI a = jI (64 + a) := by rw [show (64 : Int32) = jI 64 from jI_lit 64]; exact jI_add 64 a
theorem r_mul_64 {a : Int} : (64 : Int32) * jI a = jI (64 * a) := by rw [show (64 : Int32) = jI 64 from jI_lit 64]; exact jI_mul 64 a
theorem q_mul_64 {a : Int} : jI a * (64 : Int32) = jI (a * 64) := by rw [show (64 : Int32) = jI 64 from jI_lit 64]; exact jI_mul a 64
theorem q_div_64 {a : Int} (h1 : -2147483648 ≤ a) (h2 : a < 2147483648) : jI a / (64 : Int32) = jI (a.tdiv 64) := by rw [show (64 : Int32) = jI 64 from jI_lit 64]; exact jI_div ⟨h1, h2⟩ ⟨by decide, by decide⟩ (by omega)
theorem q_rem_64 {a : Int} (h1 : -2147483648 ≤ a) (h2 : a < 2147483648) : ai_rem (jI a) (64 : Int32) = jI (a.tmod 64) := by rw [show (64 : Int32) = jI 64 from jI_lit 64]; exact jI_rem ⟨h1, h2⟩ ⟨by decide, by decide⟩ (by omega)
theorem q_lt_65 {a : Int} (h1 : -2147483648 ≤ a) (h2 : a < 2147483648) : jI a < (65 : Int32) ↔ a < 65 := by rw [show (65 : Int32) = jI 65 from jI_lit 65]; exact jI_lt ⟨h1, h2⟩ ⟨by decide, by decide⟩
theorem r_lt_65 {a : Int} (h1 : -2147483648 ≤ a) (h2 : a < 2147483648) : (65 : Int32) < jI a ↔ 65 < a := by rw [show (65 : Int32) = jI 65 from jI_lit 65]; exact jI_lt ⟨by decide, by decide⟩ ⟨h1, h2⟩
theorem q_le_65 {a : Int} (h1 : -2147483648 ≤ a) (h2 : a < 2147483648) : jI a ≤ (65 : Int32) ↔ a ≤ 65 := by rw [show (65 : Int32) = jI 65 from jI_lit 65]; exact jI_le ⟨h1, h2⟩ ⟨by decide, by decide⟩
theorem r_le_65 {a : Int} (h1 : -2147483648 ≤ a) (h2 : a < 2147483648) : (65 : Int32) ≤ jI a ↔ 65 ≤ a := by rw [show (65 : Int32) = jI 65 from jI_lit 65]; exact jI_le ⟨by decide, by decide⟩ ⟨h1, h2⟩
theorem q_eq_65 {a : Int} (h1 : -2147483648 ≤ a) (h2 : a < 2147483648) : jI a = (65 : Int32) ↔ a = 65 := by rw [show (65 : Int32) = jI 65 from jI_lit 65]; exact jI_eq ⟨h1, h2⟩ ⟨by decide, by decide⟩
theorem q_add_65 {a : Int} : jI a + (65 : Int32) = jI (a + 65) := by rw [show (65 : Int32) = jI 65 from jI_lit 65]; exact jI_add a 65
theorem q_sub_65 {a : Int} : jI a - (65 : Int32) = jI (a - 65) := by rw [show (65 : Int32) = jI 65 from jI_lit 65]; exact jI_sub a 65
theorem r_add_65 {a : Int} : (65 : Int32) + jI a = jI (65 + a) := by rw [show (65 : Int32) = jI 65 from jI_lit 65]; exact jI_add 65 a
theorem r_mul_65 {a : Int} : (65 : Int32) * jI a = jI (65 * a) := by rw [show (65 : Int32) = jI 65 from jI_lit 65]; exact jI_mul 65 a
theorem q_mul_65 {a : Int} : jI a * (65 : Int32) = jI (a * 65) := by rw [show (65 : Int32) = jI 65 from jI_lit 65]; exact jI_mul a 65
theorem q_div_65 {a : Int} (h1 : -2147483648 ≤ a) (h2 : a < 2147483648) : jI a / (65 : Int32) = jI (a.tdiv 65) := by rw [show (65 : Int32) = jI 65 from jI_lit 65]; exact jI_div ⟨h1, h2⟩ ⟨by decide, by decide⟩ (by omega)
theorem q_rem_65 {a : Int} (h1 : -2147483648 ≤ a) (h2 : a < 2147483648) : ai_rem (jI a) (65 : Int32) = jI (a.tmod 65) := by rw [show (65 : Int32) = jI 65 from jI_lit 65]; exact jI_rem ⟨h1, h2⟩ ⟨by decide, by decide⟩ (by omega)
theorem q_lt_90 {a : Int} (h1 : -2147483648 ≤ a) (h2 : a < 2147483648) : jI a < (90 : Int32) ↔ a < 90 := by rw [show (90 : Int32) = jI 90 from jI_lit 90]; exact jI_lt ⟨h1, h2⟩ ⟨by decide, by decide⟩
theorem r_lt_90 {a : Int} (h1 : -2147483648 ≤ a) (h2 : a < 2147483648) : (90 : Int32) < jI a ↔ 90 < a := by rw [show (90 : Int32) = jI 90 from jI_lit 90]; exact jI_lt ⟨by decide, by decide⟩ ⟨h1, h2⟩
theorem q_le_90 {a : Int} (h1 : -2147483648 ≤ a) (h2 : a < 2147483648) : jI a ≤ (90 : Int32) ↔ a ≤ 90 := by rw [show (90 : Int32) = jI 90 from jI_lit 90]; exact jI_le ⟨h1, h2⟩ ⟨by decide, by decide⟩
theorem r_le_90 {a : Int} (h1 : -2147483648 ≤ a) (h2 : a < 2147483648) : (90 : Int32) ≤ jI a ↔ 90 ≤ a := by rw [show (90 : Int32) = jI 90 from jI_lit 90]; exact jI_le ⟨by decide, by decide⟩ ⟨h1, h2⟩
theorem q_eq_90 {a : Int} (h1 : -2147483648 ≤ a) (h2 : a < 2147483648) : jI a = (90 : Int32) ↔ a = 90 := by rw [show (90 : Int32) = jI 90 from jI_lit 90]; exact jI_eq ⟨h1, h2⟩ ⟨by decide, by decide⟩
theorem q_add_90 {a : Int} : jI a + (90 : Int32) = jI (a + 90) := by rw [show (90 : Int32) = jI 90 from jI_lit 90]; exact jI_add a 90
theorem q_sub_90 {a : Int} : jI a - (90 : Int32) = jI (a - 90) := by rw [show (90 : Int32) = jI 90 from jI_lit 90]; exact jI_sub a 90
theorem r_add_90 {a : Int} : (90 : Int32) + jI a = jI (90 + a) := by rw [show (90 : Int32) = jI 90 from jI_lit 90]; exact jI_add 90 a
theorem r_mul_90 {a : Int} : (90 : Int32) * jI a = jI (90 * a) := by rw [show (90 : Int32) = jI 90 from jI_lit 90]; exact jI_mul 90 a
theorem q_mul_90 {a : Int} : jI a * (90 : Int32) = jI (a * 90) := by rw [show (90 : Int32) = jI 90 from jI_lit 90]; exact jI_mul a 90
theorem q_div_90 {a : Int} (h1 : -2147483648 ≤ a) (h2 : a < 2147483648) : jI a / (90 : Int32) = jI (a.tdiv 90) := by rw [show (90 : Int32) = jI 90 from jI_lit 90]; exact jI_div ⟨h1, h2⟩ ⟨by decide, by decide⟩ (by omega)
theorem q_rem_90 {a : Int} (h1 : -2147483648 ≤ a) (h2 : a < 2147483648) : ai_rem (jI a) (90 : Int32) = jI (a.tmod 90) := by rw [show (90 : Int32) = jI 90 from jI_lit 90]; exact jI_rem ⟨h1, h2⟩ ⟨by decide, by decide⟩ (by omega)
theorem q_lt_97 {a : Int} (h1 : -2147483648 ≤ a) (h2 : a < 2147483648) : jI a < (97 : Int32) ↔ a < 97 := by rw [show (97 : Int32) = jI 97 from jI_lit 97]; exact jI_lt ⟨h1, h2⟩ ⟨by decide, by decide⟩
theorem r_lt_97 {a : Int} (h1 : -2147483648 ≤ a) (h2 : a < 2147483648) : (97 : Int32) < jI a ↔ 97 < a := by rw [show (97 : Int32) = jI 97 from jI_lit 97]; exact jI_lt ⟨by decide, by decide⟩ ⟨h1, h2⟩
theorem q_le_97 {a : Int} (h1 : -2147483648 ≤ a) (h2 : a < 2147483648) : jI a ≤ (97 : Int32) ↔ a ≤ 97 := by rw [show (97 : Int32) = jI 97 from jI_lit 97]; exact jI_le ⟨h1, h2⟩ ⟨by decide, by decide⟩
theorem r_le_97 {a : Int} (h1 : -2147483648 ≤ a) (h2 : a < 2147483648) : (97 : Int32) ≤ jI a ↔ 97 ≤ a := by rw [show (97 : Int32) = jI 97 from jI_lit 97]; exact jI_le ⟨by decide, by decide⟩ ⟨h1, h2⟩
theorem q_eq_97 {a : Int} (h1 : -2147483648 ≤ a) (h2 : a < 2147483648) : jI a = (97 : Int32) ↔ a = 97 := by rw [show (97 : Int32) = jI 97 from jI_lit 97]; exact jI_eq ⟨h1, h2⟩ ⟨by decide, by decide⟩
theorem q_add_97 {a : Int} : jI a + (97 : Int32) = jI (a + 97) := by rw [show (97 : Int32) = jI 97 from jI_lit 97]; exact jI_add a 97
theorem q_sub_97 {a : Int} : jI a - (97 : Int32) = jI (a - 97) := by rw [show (97 : Int32) = jI 97 from jI_lit 97]; exact jI_sub a 97
theorem r_add_97 {a : Int} : (97 : Int32) + jI a = jI (97 + a) := by rw [show (97 : Int32) = jI 97 from jI_lit 97]; exact jI_add 97 a
theorem r_mul_97 {a : Int} : (97 : Int32) * jI a = jI (97 * a) := by rw [show (97 : Int32) = jI 97 from jI_lit 97]; exact jI_mul 97 a
theorem q_mul_97 {a : Int} : jI a * (97 : Int32) = jI (a * 97) := by rw [show (97 : Int32) = jI 97 from jI_lit 97]; exact jI_mul a 97
theorem q_div_97 {a : Int} (h1 : -2147483648 ≤ a) (h2 : a < 2147483648) : jI a / (97 : Int32) = jI (a.tdiv 97) := by rw [show (97 : Int32) = jI 97 from jI_lit 97]; exact jI_div ⟨h1, h2⟩ ⟨by decide, by decide⟩ (by omega)
theorem q_rem_97 {a : Int} (h1 : -2147483648 ≤ a) (h2 : a < 2147483648) : ai_rem (jI a) (97 : Int32) = jI (a.tmod 97) := by rw [show (97 : Int32) = jI 97 from jI_lit 97]; exact jI_rem ⟨h1, h2⟩ ⟨by decide, by decide⟩ (by omega)
theorem q_lt_99 {a : Int} (h1 : -2147483648 ≤ a) (h2 : a < 2147483648) : jI a < (99 : Int32) ↔ a < 99 := by rw [show (99 : Int32) = jI 99 from jI_lit 99]; exact jI_lt ⟨h1, h2⟩ ⟨by decide, by decide⟩
theorem r_lt_99 {a : Int} (h1 : -2147483648 ≤ a) (h2 : a < 2147483648) : (99 : Int32) < jI a ↔ 99 < a := by rw [show (99 : Int32) = jI 99 from jI_lit 99]; exact jI_lt ⟨by decide, by decide⟩ ⟨h1, h2⟩
theorem q_le_99 {a : Int} (h1 : -2147483648 ≤ a) (h2 : a < 2147483648) : jI a ≤ (99 : Int32) ↔ a ≤ 99 := by rw [show (99 : Int32) = jI 99 from jI_lit 99]; exact jI_le ⟨h1, h2⟩ ⟨by decide, by decide⟩
theorem r_le_99 {a : Int} (h1 : -2147483648 ≤ a) (h2 : a < 2147483648) : (99 : Int32) ≤ jI a ↔ 99 ≤ a := by rw [show (99 : Int32) = jI 99 from jI_lit 99]; exact jI_le ⟨by decide, by decide⟩ ⟨h1, h2⟩
theorem q_eq_99 {a : Int} (h1 : -2147483648 ≤ a) (h2 : a < 2147483648) : jI a = (99 : Int32) ↔ a = 99 := by rw [show (99 : Int32) = jI 99 from jI_lit 99]; exact jI_eq ⟨h1, h2⟩ ⟨by decide, by decide⟩
theorem q_add_99 {a : Int} : jI a + (99 : Int32) = jI (a + 99) := by rw [show (99 : Int32) = jI 99 from jI_lit 99]; exact jI_add a 99
theorem q_sub_99 {a : Int} : jI a - (99 : Int32) = jI (a - 99) := by rw [show (99 : Int32) = jI 99 from jI_lit 99]; exact jI_sub a 99
theorem r_add_99 {a : Int} : (99 : Int32) + jI a = jI (99 + a) := by rw [show (99 : Int32) = jI 99 from jI_lit 99]; exact jI_add 99 a
theorem r_mul_99 {a : Int} : (99 : Int32) * jI a = jI (99 * a) := by rw [show (99 : Int32) = jI 99 from jI_lit 99]; exact jI_mul 99 a
theorem q_mul_99 {a : Int} : jI a * (99 : Int32) = jI (a * 99) := by rw [show (99 : Int32) = jI 99 from jI_lit 99]; exact jI_mul a 99
theorem q_div_99 {a : Int} (h1 : -2147483648 ≤ a) (h2 : a < 2147483648) : jI a / (99 : Int32) = jI (a.tdiv 99) := by rw [show (99 : Int32) = jI 99 from jI_lit 99]; exact jI_div ⟨h1, h2⟩ ⟨by decide, by decide⟩ (by omega)
theorem q_rem_99 {a : Int} (h1 : -2147483648 ≤ a) (h2 : a < 2147483648) : ai_rem (jI a) (99 : Int32) = jI (a.tmod 99) := by rw [show (99 : Int32) = jI 99 from jI_lit 99]; exact jI_rem ⟨h1, h2⟩ ⟨by decide, by decide⟩ (by omega)
theorem q_lt_100 {a : Int} (h1 : -2147483648 ≤ a) (h2 : a < 2147483648) : jI a < (100 : Int32) ↔ a < 100 := by rw [show (100 : Int32) = jI 100 from jI_lit 100]; exact jI_lt ⟨h1, h2⟩ ⟨by decide, by decide⟩
theorem r_lt_100 {a : Int} (h1 : -2147483648 ≤ a) (h2 : a < 2147483648) : (100 : Int32) < jI a ↔ 100 < a := by rw [show (100 : Int32) = jI 100 from jI_lit 100]; exact jI_lt ⟨by decide, by decide⟩ ⟨h1, h2⟩
theorem q_le_100 {a : Int} (h1 : -2147483648 ≤ a) (h2 : a < 2147483648) : jI a ≤ (100 : Int32) ↔ a ≤ 100 := by rw [show (100 : Int32) = jI 100 from jI_lit 100]; exact jI_le ⟨h1, h2⟩ ⟨by decide, by decide⟩
theorem r_le_100 {a : Int} (h1 : -2147483648 ≤ a) (h2 : a < 2147483648) : (100 : Int32) ≤ jI a ↔ 100 ≤ a := by rw [show (100 : Int32) = jI 100 from jI_lit 100]; exact jI_le ⟨by decide, by decide⟩ ⟨h1, h2⟩
theorem q_eq_100 {a : Int} (h1 : -2147483648 ≤ a) (h2 : a < 2147483648) : jI a = (100 : Int32) ↔ a = 100 := by rw [show (100 : Int32) = jI 100 from jI_lit 100]; exact jI_eq ⟨h1, h2⟩ ⟨by decide, by decide⟩
theorem q_add_100 {a : Int} : jI a + (100 : Int32) = jI (a + 100) := by rw [show (100 : Int32) = jI 100 from jI_lit 100]; exact jI_add a 100
theorem q_sub_100 {a : Int} : jI a - (100 : Int32) = jI (a - 100) := by rw [show (100 : Int32) = jI 100 from jI_lit 100]; exact jI_sub a 100
theorem r_add_100 {a : Int} : (100 : Int32) + jI a = jI (100 + a) := by rw [show (100 : Int32) = jI 100 from jI_lit 100]; exact jI_add 100 a
theorem r_mul_100 {a : Int} : (100 : Int32) * jI a = jI (100 * a) := by rw [show (100 : Int32) = jI 100 from jI_lit 100]; exact jI_mul 100 a
theorem q_mul_100 {a : Int} : jI a * (100 : Int32) = jI (a * 100) := by rw [show (100 : Int32) = jI 100 from jI_lit 100]; exact jI_mul a 100
theorem q_div_100 {a : Int} (h1 : -2147483648 ≤ a) (h2 : a < 2147483648) : jI a / (100 : Int32) = jI (a.tdiv 100) := by rw [show (100 : Int32) = jI 100 from jI_lit 100]; exact jI_div ⟨h1, h2⟩ ⟨by decide, by decide⟩ (by omega)
theorem q_rem_100 {a : Int} (h1 : -2147483648 ≤ a) (h2 : a < 2147483648) : ai_rem (jI a) (100 : Int32) = jI (a.tmod 100) := by rw [show (100 : Int32) = jI 100 from jI_lit 100]; exact jI_rem ⟨h1, h2⟩ ⟨by decide, by decide⟩ (by omega)
theorem q_lt_122 {a : Int} (h1 : -2147483648 ≤ a) (h2 : a < 2147483648) : jI a < (122 : Int32) ↔ a < 122 := by rw [show (122 : Int32) = jI 122 from jI_lit 122]; exact jI_lt ⟨h1, h2⟩ ⟨by decide, by decide⟩
theorem r_lt_122 {a : Int} (h1 : -2147483648 ≤ a) (h2 : a < 2147483648) : (122 : Int32) < jI a ↔ 122 < a := by rw [show (122 : Int32) = jI 122 from jI_lit 122]; exact jI_lt ⟨by decide, by decide⟩ ⟨h1, h2⟩
theorem q_le_122 {a : Int} (h1 : -2147483648 ≤ a) (h2 : a < 2147483648) : jI a ≤ (122 : Int32) ↔ a ≤ 122 := by rw [show (122 : Int32) = jI 122 from jI_lit 122]; exact jI_le ⟨h1, h2⟩ ⟨by decide, by decide⟩
theorem r_le_122 {a : Int} (h1 : -2147483648 ≤ a) (h2 : a < 2147483648) : (122 : Int32) ≤ jI a ↔ 122 ≤ a := by rw [show (122 : Int32) = jI 122 from jI_lit 122]; exact jI_le ⟨by decide, by decide⟩ ⟨h1, h2⟩
theorem q_eq_122 {a : Int} (h1 : -2147483648 ≤ a) (h2 : a < 2147483648) : jI a = (122 : Int32) ↔ a = 122 := by rw [show (122 : Int32) = jI 122 from jI_lit 122]; exact jI_eq ⟨h1, h2⟩ ⟨by decide, by decide⟩
theorem q_add_122 {a : Int} : jI a + (122 : Int32) = jI (a + 122) := by rw [show (122 : Int32) = jI 122 from jI_lit 122]; exact jI_add a 122
theorem q_sub_122 {a : Int} : jI a - (122 : Int32) = jI (a - 122) := by rw [show (122 : Int32) = jI 122 from jI_lit 122]; exact jI_sub a 122
theorem r_add_122 {a : Int} : (122 : Int32) + jI a = jI (122 + a) := by rw [show (122 : Int32) = jI 122 from jI_lit 122]; exact jI_add 122 a
theorem r_mul_122 {a : Int} : (122 : Int32) * jI a = jI (122 * a) := by rw [show (122 : Int32) = jI 122 from jI_lit 122]; exact jI_mul 122 a
theorem q_mul_122 {a : Int} : jI a * (122 : Int32) = jI (a * 122) := by rw [show (122 : Int32) = jI 122 from jI_lit 122]; exact jI_mul a 122
theorem q_div_122 {a : Int} (h1 : -2147483648 ≤ a) (h2 : a < 2147483648) : jI a / (122 : Int32) = jI (a.tdiv 122) := by rw [show (122 : Int32) = jI 122 from jI_lit 122]; exact jI_div ⟨h1, h2⟩ ⟨by decide, by decide⟩ (by omega)
theorem q_rem_122 {a : Int} (h1 : -2147483648 ≤ a) (h2 : a < 2147483648) : ai_rem (jI a) (122 : Int32) = jI (a.tmod 122) := by rw [show (122 : Int32) = jI 122 from jI_lit 122]; exact jI_rem ⟨h1, h2⟩ ⟨by decide, by decide⟩ (by omega)
theorem q_lt_160 {a : Int} (h1 : -2147483648 ≤ a) (h2 : a < 2147483648) : jI a < (160 : Int32) ↔ a < 160 := by rw [show (160 : Int32) = jI 160 from jI_lit 160]; exact jI_lt ⟨h1, h2⟩ ⟨by decide, by decide⟩
theorem r_lt_160 {a : Int} (h1 : -2147483648 ≤ a) (h2 : a < 2147483648) : (160 : Int32) < jI a ↔ 160 < a := by rw [show (160 : Int32) = jI 160 from jI_lit 160]; exact jI_lt ⟨by decide, by decide⟩ ⟨h1, h2⟩
theorem q_le_160 {a : Int} (h1 : -2147483648 ≤ a) (h2 : a < 2147483648) : jI a ≤ (160 : Int32) ↔ a ≤ 160 := by rw [show (160 : Int32) = jI 160 from jI_lit 160]; exact jI_le ⟨h1, h2⟩ ⟨by decide, by decide⟩
theorem r_le_160 {a : Int} (h1 : -2147483648 ≤ a) (h2 : a < 2147483648) : (160 : Int32) ≤ jI a ↔ 160 ≤ a := by rw [show (160 : Int32) = jI 160 from jI_lit 160]; exact jI_le ⟨by decide, by decide⟩ ⟨h1, h2⟩
theorem q_eq_160 {a : Int} (h1 : -2147483648 ≤ a) (h2 : a < 2147483648) : jI a = (160 : Int32) ↔ a = 160 := by rw [show (160 : Int32) = jI 160 from jI_lit 160]; exact jI_eq ⟨h1, h2⟩ ⟨by decide, by decide⟩
theorem q_add_160 {a : Int} : jI a + (160 : Int32) = jI (a + 160) := by rw [show (160 : Int32) = jI 160 from jI_lit 160]; exact jI_add a 160
theorem q_sub_160 {a : Int} : jI a - (160 : Int32) = jI (a - 160) := by rw [show (160 : Int32) = jI 160 from jI_lit 160]; exact jI_sub a 160
theorem r_add_160 {a : Int} : (160 : Int32) + jI a = jI (160 + a) := by rw [show (160 : Int32) = jI 160 from jI_lit 160]; exact jI_add 160 a
theorem r_mul_160 {a : Int} : (160 : Int32) * jI a = jI (160 * a) := by rw [show (160 : Int32) = jI 160 from jI_lit 160]; exact jI_mul 160 a
theorem q_mul_160 {a : Int} : jI a * (160 : Int32) = jI (a * 160) := by rw [show (160 : Int32) = jI 160 from jI_lit 160]; exact jI_mul a 160
theorem q_div_160 {a : Int} (h1 : -2147483648 ≤ a) (h2 : a < 2147483648) : jI a / (160 : Int32) = jI (a.tdiv 160) := by rw [show (160 : Int32) = jI 160 from jI_lit 160]; exact jI_div ⟨h1, h2⟩ ⟨by decide, by decide⟩ (by omega)
theorem q_rem_160 {a : Int} (h1 : -2147483648 ≤ a) (h2 : a < 2147483648) : ai_rem (jI a) (160 : Int32) = jI (a.tmod 160) := by rw [show (160 : Int32) = jI 160 from jI_lit 160]; exact jI_rem ⟨h1, h2⟩ ⟨by decide, by decide⟩ (by omega)
theorem q_lt_200 {a : Int} (h1 : -2147483648 ≤ a) (h2 : a < 2147483648) : jI a < (200 : Int32) ↔ a < 200 := by rw [show (200 : Int32) = jI 200 from jI_lit 200]; exact jI_lt ⟨h1, h2⟩ ⟨by decide, by decide⟩
theorem r_lt_200 {a : Int} (h1 : -2147483648 ≤ a) (h2 : a < 2147483648) : (200 : Int32) < jI a ↔ 200 < a := by rw [show (200 : Int32) = jI 200 from jI_lit 200]; exact jI_lt ⟨by decide, by decide⟩ ⟨h1, h2⟩
theorem q_le_200 {a : Int} (h1 : -2147483648 ≤ a) (h2 : a < 2147483648) : jI a ≤ (200 : Int32) ↔ a ≤ 200 := by rw [show (200 : Int32) = jI 200 from jI_lit 200]; exact jI_le ⟨h1, h2⟩ ⟨by decide, by decide⟩
theorem r_le_200 {a : Int} (h1 : -2147483648 ≤ a) (h2 : a < 2147483648) : (200 : Int32) ≤ jI a ↔ 200 ≤ a := by rw [show (200 : Int32) = jI 200 from jI_lit 200]; exact jI_le ⟨by decide, by decide⟩ ⟨h1, h2⟩
theorem q_eq_200 {a : Int} (h1 : -2147483648 ≤ a) (h2 : a < 2147483648) : jI a = (200 : Int32) ↔ a = 200 := by rw [show (200 : Int32) = jI 200 from jI_lit 200]; exact jI_eq ⟨h1, h2⟩ ⟨by decide, by decide⟩
theorem q_add_200 {a : Int} : jI a + (200 : Int32) = jI (a + 200) := by rw [show (200 : Int32) = jI 200 from jI_lit 200]; exact jI_add a 200
theorem q_sub_200 {a : Int} : jI a - (200 : Int32) = jI (a - 200) := by rw [show (200 : Int32) = jI 200 from jI_lit 200]; exact jI_sub a 200
theorem r_add_200 {a : Int} : (200 : Int32) + jI a = jI (200 + a) := by rw [show (200 : Int32) = jI 200 from jI_lit 200]; exact jI_add 200 a
theorem r_mul_200 {a : Int} : (200 : Int32) * jI a = jI (200 * a) := by rw [show (200 : Int32) = jI 200 from jI_lit 200]; exact jI_mul 200 a
theorem q_mul_200 {a : Int} : jI a * (200 : Int32) = jI (a * 200) := by rw [show (200 : Int32) = jI 200 from jI_lit 200]; exact jI_mul a 200
theorem q_div_200 {a : Int} (h1 : -2147483648 ≤ a) (h2 : a < 2147483648) : jI a / (200 : Int32) = jI (a.tdiv 200) := by rw [show (200 : Int32) = jI 200 from jI_lit 200]; exact jI_div ⟨h1, h2⟩ ⟨by decide, by decide⟩ (by omega)
theorem q_rem_200 {a : Int} (h1 : -2147483648 ≤ a) (h2 : a < 2147483648) : ai_rem (jI a) (200 : Int32) = jI (a.tmod 200) := by rw [show (200 : Int32) = jI 200 from jI_lit 200]; exact jI_rem ⟨h1, h2⟩ ⟨by decide, by decide⟩ (by omega)
theorem q_lt_255 {a : Int} (h1 : -2147483648 ≤ a) (h2 : a < 2147483648) : jI a < (255 : Int32) ↔ a < 255 := by rw [show (255 : Int32) = jI 255 from jI_lit 255]; exact jI_lt ⟨h1, h2⟩ ⟨by decide, by decide⟩
theorem r_lt_255 {a : Int} (h1 : -2147483648 ≤ a) (h2 : a < 2147483648) : (255 : Int32) < jI a ↔ 255 < a := by rw [show (255 : Int32) = jI 255 from jI_lit 255]; exact jI_lt ⟨by decide, by decide⟩ ⟨h1, h2⟩
theorem q_le_255 {a : Int} (h1 : -2147483648 ≤ a) (h2 : a < 2147483648) : jI a ≤ (255 : Int32) ↔ a ≤ 255 := by rw [show (255 : Int32) = jI 255 from jI_lit 255]; exact jI_le ⟨h1, h2⟩ ⟨by decide, by decide⟩
theorem r_le_255 {a : Int} (h1 : -2147483648 ≤ a) (h2 : a < 2147483648) : (255 : Int32) ≤ jI a ↔ 255 ≤ a := by rw [show (255 : Int32) = jI 255 from jI_lit 255]; exact jI_le ⟨by decide, by decide⟩ ⟨h1, h2⟩
theorem q_eq_255 {a : Int} (h1 : -2147483648 ≤ a) (h2 : a < 2147483648) : jI a = (255 : Int32) ↔ a = 255 := by rw [show (255 : Int32) = jI 255 from jI_lit 255]; exact jI_eq ⟨h1, h2⟩ ⟨by decide, by decide⟩
theorem q_add_255 {a : Int} : jI a + (255 : Int32) = jI (a + 255) := by rw [show (255 : Int32) = jI 255 from jI_lit 255]; exact jI_add a 255
theorem q_sub_255 {a : Int} : jI a - (255 : Int32) = jI (a - 255) := by rw [show (255 : Int32) = jI 255 from jI_lit 255]; exact jI_sub a 255
theorem r_add_255 {a : Int} : (255 : Int32) + jI a = jI (255 + a) := by rw [show (255 : Int32) = jI 255 from jI_lit 255]; exact jI_add 255 a
theorem r_mul_255 {a : Int} : (255 : Int32) * jI a = jI (255 * a) := by rw [show (255 : Int32) = jI 255 from jI_lit 255]; exact jI_mul 255 a
theorem q_mul_255 {a : Int} : jI a * (255 : Int32) = jI (a * 255) := by rw [show (255 : Int32) = jI 255 from jI_lit 255]; exact jI_mul a 255
theorem q_div_255 {a : Int} (h1 : -2147483648 ≤ a) (h2 : a < 2147483648) : jI a / (255 : Int32) = jI (a.tdiv 255) := by rw [show (255 : Int32) = jI 255 from jI_lit 255]; exact jI_div ⟨h1, h2⟩ ⟨by decide, by decide⟩ (by omega)
theorem q_rem_255 {a : Int} (h1 : -2147483648 ≤ a) (h2 : a < 2147483648) : ai_rem (jI a) (255 : Int32) = jI (a.tmod 255) := by rw [show (255 : Int32) = jI 255 from jI_lit 255]; exact jI_rem ⟨h1, h2⟩ ⟨by decide, by decide⟩ (by omega)
theorem q_lt_4050 {a : Int} (h1 : -2147483648 ≤ a) (h2 : a < 2147483648) : jI a < (4050 : Int32) ↔ a < 4050 := by rw [show (4050 : Int32) = jI 4050 from jI_lit 4050]; exact jI_lt ⟨h1, h2⟩ ⟨by decide, by decide⟩
theorem r_lt_4050 {a : Int} (h1 : -2147483648 ≤ a) (h2 : a < 2147483648) : (4050 : Int32) < jI a ↔ 4050 < a := by rw [show (4050 : Int32) = jI 4050 from jI_lit 4050]; exact jI_lt ⟨by decide, by decide⟩ ⟨h1, h2⟩
theorem q_le_4050 {a : Int} (h1 : -2147483648 ≤ a) (h2 : a < 2147483648) : jI a ≤ (4050 : Int32) ↔ a ≤ 4050 := by rw [show (4050 : Int32) = jI 4050 from jI_lit 4050]; exact jI_le ⟨h1, h2⟩ ⟨by decide, by decide⟩
theorem r_le_4050 {a : Int} (h1 : -2147483648 ≤ a) (h2 : a < 2147483648) : (4050 : Int32) ≤ jI a ↔ 4050 ≤ a := by rw [show (4050 : Int32) = jI 4050 from jI_lit 4050]; exact jI_le ⟨by decide, by decide⟩ ⟨h1, h2⟩
theorem q_eq_4050 {a : Int} (h1 : -2147483648 ≤ a) (h2 : a < 2147483648) : jI a = (4050 : Int32) ↔ a = 4050 := by rw [show (4050 : Int32) = jI 4050 from jI_lit 4050]; exact jI_eq ⟨h1, h2⟩ ⟨by decide, by decide⟩
theorem q_add_4050 {a : Int} : jI a + (4050 : Int32) = jI (a + 4050) := by rw [show (4050 : Int32) = jI 4050 from jI_lit 4050]; exact jI_add a 4050
theorem q_sub_4050 {a : Int} : jI a - (4050 : Int32) = jI (a - 4050) := by rw [show (4050 : Int32) = jI 4050 from jI_lit 4050]; exact jI_sub a 4050
theorem r_add_4050 {a : Int} : (4050 : Int32) + jI a = jI (4050 + a) := by rw [show (4050 : Int32) = jI 4050 from jI_lit 4050]; exact jI_add 4050 a
theorem r_mul_4050 {a : Int} : (4050 : Int32) * jI a = jI (4050 * a) := by rw [show (4050 : Int32) = jI 4050 from jI_lit 4050]; exact jI_mul 4050 a
theorem q_mul_4050 {a : Int} : jI a * (4050 : Int32) = jI (a * 4050) := by rw [show (4050 : Int32) = jI 4050 from jI_lit 4050]; exact jI_mul a 4050
theorem q_div_4050 {a : Int} (h1 : -2147483648 ≤ a) (h2 : a < 2147483648) : jI a / (4050 : Int32) = jI (a.tdiv 4050) := by rw [show (4050 : Int32) = jI 4050 from jI_lit 4050]; exact jI_div ⟨h1, h2⟩ ⟨by decide, by decide⟩ (by omega)
theorem q_rem_4050 {a : Int} (h1 : -2147483648 ≤ a) (h2 : a < 2147483648) : ai_rem (jI a) (4050 : Int32) = jI (a.tmod 4050) := by rw [show (4050 : Int32) = jI 4050 from jI_lit 4050]; exact jI_rem ⟨h1, h2⟩ ⟨by decide, by decide⟩ (by omega)
theorem q_lt_99999 {a : Int} (h1 : -2147483648 ≤ a) (h2 : a < 2147483648) : jI a < (99999 : Int32) ↔ a < 99999 := by rw [show (99999 : Int32) = jI 99999 from jI_lit 99999]; exact jI_lt ⟨h1, h2⟩ ⟨by decide, by decide⟩
theorem r_lt_99999 {a : Int} (h1 : -2147483648 ≤ a) (h2 : a < 2147483648) : (99999 : Int32) < jI a ↔ 99999 < a := by rw [show (99999 : Int32) = jI 99999 from jI_lit 99999]; exact jI_lt ⟨by decide, by decide⟩ ⟨h1, h2⟩
theorem q_le_99999 {a : Int} (h1 : -2147483648 ≤ a) (h2 : a < 2147483648) : jI a ≤ (99999 : Int32) ↔ a ≤ 99999 := by rw [show (99999 : Int32) = jI 99999 from jI_lit 99999]; exact jI_le ⟨h1, h2⟩ ⟨by decide, by decide⟩
theorem r_le_99999 {a : Int} (h1 : -2147483648 ≤ a) (h2 : a < 2147483648) : (99999 : Int32) ≤ jI a ↔ 99999 ≤ a := by rw [show (99999 : Int32) = jI 99999 from jI_lit 99999]; exact jI_le ⟨by decide, by decide⟩ ⟨h1, h2⟩
theorem q_eq_99999 {a : Int} (h1 : -2147483648 ≤ a) (h2 : a < 2147483648) : jI a = (99999 : Int32) ↔ a = 99999 := by rw [show (99999 : Int32) = jI 99999 from jI_lit 99999]; exact jI_eq ⟨h1, h2⟩ ⟨by decide, by decide⟩
theorem q_add_99999 {a : Int} : jI a + (99999 : Int32) = jI (a + 99999) := by rw [show (99999 : Int32) = jI 99999 from jI_lit 99999]; exact jI_add a 99999
theorem q_sub_99999 {a : Int} : jI a - (99999 : Int32) = jI (a - 99999) := by rw [show (99999 : Int32) = jI 99999 from jI_lit 99999]; exact jI_sub a 99999
theorem r_add_99999 {a : Int} : (99999 : Int32) + jI a = jI (99999 + a) := by rw [show (99999 : Int32) = jI 99999 from jI_lit 99999]; exact jI_add 99999 a
theorem r_mul_99999 {a : Int} : (99999 : Int32) * jI a = jI (99999 * a) := by rw [show (99999 : Int32) = jI 99999 from jI_lit 99999]; exact jI_mul 99999 a
theorem q_mul_99999 {a : Int} : jI a * (99999 : Int32) = jI (a * 99999) := by rw [show (99999 : Int32) = jI 99999 from jI_lit 99999]; exact jI_mul a 99999
theorem q_div_99999 {a : Int} (h1 : -2147483648 ≤ a) (h2 : a < 2147483648) : jI a / (99999 : Int32) = jI (a.tdiv 99999) := by rw [show (99999 : Int32) = jI 99999 from jI_lit 99999]; exact jI_div ⟨h1, h2⟩ ⟨by decide, by decide⟩ (by omega)
theorem q_rem_99999 {a : Int} (h1 : -2147483648 ≤ a) (h2 : a < 2147483648) : ai_rem (jI a) (99999 : Int32) = jI (a.tmod 99999) := by rw [show (99999 : Int32) = jI 99999 from jI_lit 99999]; exact jI_rem ⟨h1, h2⟩ ⟨by decide, by decide⟩ (by omega)
theorem q_lt_100000 {a : Int} (h1 : -2147483648 ≤ a) (h2 : a < 2147483648) : jI a < (100000 : Int32) ↔ a < 100000 := by rw [show (100000 : Int32) = jI 100000 from jI_lit 100000]; exact jI_lt ⟨h1, h2⟩ ⟨by decide, by decide⟩
theorem r_lt_100000 {a : Int} (h1 : -2147483648 ≤ a) (h2 : a < 2147483648) : (100000 : Int32) < jI a ↔ 100000 < a := by rw [show (100000 : Int32) = jI 100000 from jI_lit 100000]; exact jI_lt ⟨by decide, by decide⟩ ⟨h1, h2⟩
theorem q_le_100000 {a : Int} (h1 : -2147483648 ≤ a) (h2 : a < 2147483648) : jI a ≤ (100000 : Int32) ↔ a ≤ 100000 := by rw [show (100000 : Int32) = jI 100000 from jI_lit 100000]; exact jI_le ⟨h1, h2⟩ ⟨by decide, by decide⟩
theorem r_le_100000 {a : Int} (h1 : -2147483648 ≤ a) (h2 : a < 2147483648) : (100000 : Int32) ≤ jI a ↔ 100000 ≤ a := by rw [show (100000 : Int32) = jI 100000 from jI_lit 100000]; exact jI_le ⟨by decide, by decide⟩ ⟨h1, h2⟩
theorem q_eq_100000 {a : Int} (h1 : -2147483648 ≤ a) (h2 : a < 2147483648) : jI a = (100000 : Int32) ↔ a = 100000 := by rw [show (100000 : Int32) = jI 100000 from jI_lit 100000]; exact jI_eq ⟨h1, h2⟩ ⟨by decide, by decide⟩
theorem q_add_100000 {a : Int} : jI a + (100000 : Int32) = jI (a + 100000) := by rw [show (100000 : Int32) = jI 100000 from jI_lit 100000]; exact jI_add a 100000
theorem q_sub_100000 {a : Int} : jI a - (100000 : Int32) = jI (a - 100000) := by rw [show (100000 : Int32) = jI 100000 from jI_lit 100000]; exact jI_sub a 100000
theorem r_add_100000 {a : Int} : (100000 : Int32) + jI a = jI (100000 + a) := by rw [show (100000 : Int32) = jI 100000 from jI_lit 100000]; exact jI_add 100000 a
theorem r_mul_100000 {a : Int} : (100000 : Int32) * jI a = jI (100000 * a) := by rw [show (100000 : Int32) = jI 100000 from jI_lit 100000]; exact jI_mul 100000 a
theorem q_mul_100000 {a : Int} : jI a * (100000 : Int32) = jI (a * 100000) := by rw [show (100000 : Int32) = jI 100000 from jI_lit 100000]; exact jI_mul a 100000
theorem q_div_100000 {a : Int} (h1 : -2147483648 ≤ a) (h2 : a < 2147483648) : jI a / (100000 : Int32) = jI (a.tdiv 100000) := by rw [show (100000 : Int32) = jI 100000 from jI_lit 100000]; exact jI_div ⟨h1, h2⟩ ⟨by decide, by decide⟩ (by omega)
theorem q_rem_100000 {a : Int} (h1 : -2147483648 ≤ a) (h2 : a < 2147483648) : ai_rem (jI a) (100000 : Int32) = jI (a.tmod 100000) := by rw [show (100000 : Int32) = jI 100000 from jI_lit 100000]; exact jI_rem ⟨h1, h2⟩ ⟨by decide, by decide⟩ (by omega)
theorem q_lt_m1 {a : Int} (h1 : -2147483648 ≤ a) (h2 : a < 2147483648) : jI a < ((-1) : Int32) ↔ a < (-1) := by rw [show ((-1) : Int32) = jI (-1) from jn_lit 1]; exact jI_lt ⟨h1, h2⟩ ⟨by decide, by decide⟩
theorem r_lt_m1 {a : Int} (h1 : -2147483648 ≤ a) (h2 : a < 2147483648) : ((-1) : Int32) < jI a ↔ (-1) < a := by rw [show ((-1) : Int32) = jI (-1) from jn_lit 1]; exact jI_lt ⟨by decide, by decide⟩ ⟨h1, h2⟩
theorem q_le_m1 {a : Int} (h1 : -2147483648 ≤ a) (h2 : a < 2147483648) : jI a ≤ ((-1) : Int32) ↔ a ≤ (-1) := by rw [show ((-1) : Int32) = jI (-1) from jn_lit 1]; exact jI_le ⟨h1, h2⟩ ⟨by decide, by decide⟩
theorem r_le_m1 {a : Int} (h1 : -2147483648 ≤ a) (h2 : a < 2147483648) : ((-1) : Int32) ≤ jI a ↔ (-1) ≤ a := by rw [show ((-1) : Int32) = jI (-1) from jn_lit 1]; exact jI_le ⟨by decide, by decide⟩ ⟨h1, h2⟩
theorem q_eq_m1 {a : Int} (h1 : -2147483648 ≤ a) (h2 : a < 2147483648) : jI a = ((-1) : Int32) ↔ a = (-1) := by rw [show ((-1) : Int32) = jI (-1) from jn_lit 1]; exact jI_eq ⟨h1, h2⟩ ⟨by decide, by decide⟩
theorem r_eq_m1 {a : Int} (h1 : -2147483648 ≤ a) (h2 : a < 2147483648) : ((-1) : Int32) = jI a ↔ (-1) = a := by rw [show ((-1) : Int32) = jI (-1) from jn_lit 1]; exact jI_eq ⟨by decide, by decide⟩ ⟨h1, h2⟩
theorem q_add_m1 {a : Int} : jI a + ((-1) : Int32) = jI (a + (-1)) := by rw [show ((-1) : Int32) = jI (-1) from jn_lit 1]; exact jI_add a (-1)
theorem q_lt_m2 {a : Int} (h1 : -2147483648 ≤ a) (h2 : a < 2147483648) : jI a < ((-2) : Int32) ↔ a < (-2) := by rw [show ((-2) : Int32) = jI (-2) from jn_lit 2]; exact jI_lt ⟨h1, h2⟩ ⟨by decide, by decide⟩
theorem r_lt_m2 {a : Int} (h1 : -2147483648 ≤ a) (h2 : a < 2147483648) : ((-2) : Int32) < jI a ↔ (-2) < a := by rw [show ((-2) : Int32) = jI (-2) from jn_lit 2]; exact jI_lt ⟨by decide, by decide⟩ ⟨h1, h2⟩
theorem q_le_m2 {a : Int} (h1 : -2147483648 ≤ a) (h2 : a < 2147483648) : jI a ≤ ((-2) : Int32) ↔ a ≤ (-2) := by rw [show ((-2) : Int32) = jI (-2) from jn_lit 2]; exact jI_le ⟨h1, h2⟩ ⟨by decide, by decide⟩
theorem r_le_m2 {a : Int} (h1 : -2147483648 ≤ a) (h2 : a < 2147483648) : ((-2) : Int32) ≤ jI a ↔ (-2) ≤ a := by rw [show ((-2) : Int32) = jI (-2) from jn_lit 2]; exact jI_le ⟨by decide, by decide⟩ ⟨h1, h2⟩
theorem q_eq_m2 {a : Int} (h1 : -2147483648 ≤ a) (h2 : a < 2147483648) : jI a = ((-2) : Int32) ↔ a = (-2) := by rw [show ((-2) : Int32) = jI (-2) from jn_lit 2]; exact jI_eq ⟨h1, h2⟩ ⟨by decide, by decide⟩
theorem q_add_m2 {a : Int} : jI a + ((-2) : Int32) = jI (a + (-2)) := by rw [show ((-2) : Int32) = jI (-2) from jn_lit 2]; exact jI_add a (-2)
theorem q_lt_m3 {a : Int} (h1 : -2147483648 ≤ a) (h2 : a < 2147483648) : jI a < ((-3) : Int32) ↔ a < (-3) := by rw [show ((-3) : Int32) = jI (-3) from jn_lit 3]; exact jI_lt ⟨h1, h2⟩ ⟨by decide, by decide⟩
theorem r_lt_m3 {a : Int} (h1 : -2147483648 ≤ a) (h2 : a < 2147483648) : ((-3) : Int32) < jI a ↔ (-3) < a := by rw [show ((-3) : Int32) = jI (-3) from jn_lit 3]; exact jI_lt ⟨by decide, by decide⟩ ⟨h1, h2⟩
theorem q_le_m3 {a : Int} (h1 : -2147483648 ≤ a) (h2 : a < 2147483648) : jI a ≤ ((-3) : Int32) ↔ a ≤ (-3) := by rw [show ((-3) : Int32) = jI (-3) from jn_lit 3]; exact jI_le ⟨h1, h2⟩ ⟨by decide, by decide⟩
theorem r_le_m3 {a : Int} (h1 : -2147483648 ≤ a) (h2 : a < 2147483648) : ((-3) : Int32) ≤ jI a ↔ (-3) ≤ a := by rw [show ((-3) : Int32) = jI (-3) from jn_lit 3]; exact jI_le ⟨by decide, by decide⟩ ⟨h1, h2⟩
theorem q_eq_m3 {a : Int} (h1 : -2147483648 ≤ a) (h2 : a < 2147483648) : jI a = ((-3) : Int32) ↔ a = (-3) := by rw [show ((-3) : Int32) = jI (-3) from jn_lit 3]; exact jI_eq ⟨h1, h2⟩ ⟨by decide, by decide⟩
theorem q_add_m3 {a : Int} : jI a + ((-3) : Int32) = jI (a + (-3)) := by rw [show ((-3) : Int32) = jI (-3) from jn_lit 3]; exact jI_add a (-3)
theorem q_lt_m4 {a : Int} (h1 : -2147483648 ≤ a) (h2 : a < 2147483648) : jI a < ((-4) : Int32) ↔ a < (-4) := by rw [show ((-4) : Int32) = jI (-4) from jn_lit 4]; exact jI_lt ⟨h1, h2⟩ ⟨by decide, by decide⟩
theorem r_lt_m4 {a : Int} (h1 : -2147483648 ≤ a) (h2 : a < 2147483648) : ((-4) : Int32) < jI a ↔ (-4) < a := by rw [show ((-4) : Int32) = jI (-4) from jn_lit 4]; exact jI_lt ⟨by decide, by decide⟩ ⟨h1, h2⟩
theorem q_le_m4 {a : Int} (h1 : -2147483648 ≤ a) (h2 : a < 2147483648) : jI a ≤ ((-4) : Int32) ↔ a ≤ (-4) := by rw [show ((-4) : Int32) = jI (-4) from jn_lit 4]; exact jI_le ⟨h1, h2⟩ ⟨by decide, by decide⟩
theorem r_le_m4 {a : Int} (h1 : -2147483648 ≤ a) (h2 : a < 2147483648) : ((-4) : Int32) ≤ jI a ↔ (-4) ≤ a := by rw [show ((-4) : Int32) = jI (-4) from jn_lit 4]; exact jI_le ⟨by decide, by decide⟩ ⟨h1, h2⟩
theorem q_eq_m4 {a : Int} (h1 : -2147483648 ≤ a) (h2 : a < 2147483648) : jI a = ((-4) : Int32) ↔ a = (-4) := by rw [show ((-4) : Int32) = jI (-4) from jn_lit 4]; exact jI_eq ⟨h1, h2⟩ ⟨by decide, by decide⟩
theorem q_add_m4 {a : Int} : jI a + ((-4) : Int32) = jI (a + (-4)) := by rw [show ((-4) : Int32) = jI (-4) from jn_lit 4]; exact jI_add a (-4)
theorem q_lt_m5 {a : Int} (h1 : -2147483648 ≤ a) (h2 : a < 2147483648) : jI a < ((-5) : Int32) ↔ a < (-5) := by rw [show ((-5) : Int32) = jI (-5) from jn_lit 5]; exact jI_lt ⟨h1, h2⟩ ⟨by decide, by decide⟩
theorem r_lt_m5 {a : Int} (h1 : -2147483648 ≤ a) (h2 : a < 2147483648) : ((-5) : Int32) < jI a ↔ (-5) < a := by rw [show ((-5) : Int32) = jI (-5) from jn_lit 5]; exact jI_lt ⟨by decide, by decide⟩ ⟨h1, h2⟩
theorem q_le_m5 {a : Int} (h1 : -2147483648 ≤ a) (h2 : a < 2147483648) : jI a ≤ ((-5) : Int32) ↔ a ≤ (-5) := by rw [show ((-5) : Int32) = jI (-5) from jn_lit 5]; exact jI_le ⟨h1, h2⟩ ⟨by decide, by decide⟩
theorem r_le_m5 {a : Int} (h1 : -2147483648 ≤ a) (h2 : a < 2147483648) : ((-5) : Int32) ≤ jI a ↔ (-5) ≤ a := by rw [show ((-5) : Int32) = jI (-5) from jn_lit 5]; exact jI_le ⟨by decide, by decide⟩ ⟨h1, h2⟩
theorem q_eq_m5 {a : Int} (h1 : -2147483648 ≤ a) (h2 : a < 2147483648) : jI a = ((-5) : Int32) ↔ a = (-5) := by rw [show ((-5) : Int32) = jI (-5) from jn_lit 5]; exact jI_eq ⟨h1, h2⟩ ⟨by decide, by decide⟩
theorem q_add_m5 {a : Int} : jI a + ((-5) : Int32) = jI (a + (-5)) := by rw [show ((-5) : Int32) = jI (-5) from jn_lit 5]; exact jI_add a (-5)
theorem q_lt_m6 {a : Int} (h1 : -2147483648 ≤ a) (h2 : a < 2147483648) : jI a < ((-6) : Int32) ↔ a < (-6) := by rw [show ((-6) : Int32) = jI (-6) from jn_lit 6]; exact jI_lt ⟨h1, h2⟩ ⟨by decide, by decide⟩
theorem r_lt_m6 {a : Int} (h1 : -2147483648 ≤ a) (h2 : a < 2147483648) : ((-6) : Int32) < jI a ↔ (-6) < a := by rw [show ((-6) : Int32) = jI (-6) from jn_lit 6]; exact jI_lt ⟨by decide, by decide⟩ ⟨h1, h2⟩
theorem q_le_m6 {a : Int} (h1 : -2147483648 ≤ a) (h2 : a < 2147483648) : jI a ≤ ((-6) : Int32) ↔ a ≤ (-6) := by rw [show ((-6) : Int32) = jI (-6) from jn_lit 6]; exact jI_le ⟨h1, h2⟩ ⟨by decide, by decide⟩
theorem r_le_m6 {a : Int} (h1 : -2147483648 ≤ a) (h2 : a < 2147483648) : ((-6) : Int32) ≤ jI a ↔ (-6) ≤ a := by rw [show ((-6) : Int32) = jI (-6) from jn_lit 6]; exact jI_le ⟨by decide, by decide⟩ ⟨h1, h2⟩
theorem q_eq_m6 {a : Int} (h1 : -2147483648 ≤ a) (h2 : a < 2147483648) : jI a = ((-6) : Int32) ↔ a = (-6) := by rw [show ((-6) : Int32) = jI (-6) from jn_lit 6]; exact jI_eq ⟨h1, h2⟩ ⟨by decide, by decide⟩
theorem q_add_m6 {a : Int} : jI a + ((-6) : Int32) = jI (a + (-6)) := by rw [show ((-6) : Int32) = jI (-6) from jn_lit 6]; exact jI_add a (-6)
theorem q_lt_m7 {a : Int} (h1 : -2147483648 ≤ a) (h2 : a < 2147483648) : jI a < ((-7) : Int32) ↔ a < (-7) := by rw [show ((-7) : Int32) = jI (-7) from jn_lit 7]; exact jI_lt ⟨h1, h2⟩ ⟨by decide, by decide⟩
theorem r_lt_m7 {a : Int} (h1 : -2147483648 ≤ a) (h2 : a < 2147483648) : ((-7) : Int32) < jI a ↔ (-7) < a := by rw [show ((-7) : Int32) = jI (-7) from jn_lit 7]; exact jI_lt ⟨by decide, by decide⟩ ⟨h1, h2⟩
theorem q_le_m7 {a : Int} (h1 : -2147483648 ≤ a) (h2 : a < 2147483648) : jI a ≤ ((-7) : Int32) ↔ a ≤ (-7) := by rw [show ((-7) : Int32) = jI (-7) from jn_lit 7]; exact jI_le ⟨h1, h2⟩ ⟨by decide, by decide⟩
theorem r_le_m7 {a : Int} (h1 : -2147483648 ≤ a) (h2 : a < 2147483648) : ((-7) : Int32) ≤ jI a ↔ (-7) ≤ a := by rw [show ((-7) : Int32) = jI (-7) from jn_lit 7]; exact jI_le ⟨by decide, by decide⟩ ⟨h1, h2⟩
theorem q_eq_m7 {a : Int} (h1 : -2147483648 ≤ a) (h2 : a < 2147483648) : jI a = ((-7) : Int32) ↔ a = (-7) := by rw [show ((-7) : Int32) = jI (-7) from jn_lit 7]; exact jI_eq ⟨h1, h2⟩ ⟨by decide, by decide⟩
theorem q_add_m7 {a : Int} : jI a + ((-7) : Int32) = jI (a + (-7)) := by rw [show ((-7) : Int32) = jI (-7) from jn_lit 7]; exact jI_add a (-7)
theorem q_lt_m8 {a : Int} (h1 : -2147483648 ≤ a) (h2 : a < 2147483648) : jI a < ((-8) : Int32) ↔ a < (-8) := by rw [show ((-8) : Int32) = jI (-8) from jn_lit 8]; exact jI_lt ⟨h1, h2⟩ ⟨by decide, by decide⟩
theorem r_lt_m8 {a : Int} (h1 : -2147483648 ≤ a) (h2 : a < 2147483648) : ((-8) : Int32) < jI a ↔ (-8) < a := by rw [show ((-8) : Int32) = jI (-8) from jn_lit 8]; exact jI_lt ⟨by decide, by decide⟩ ⟨h1, h2⟩
theorem q_le_m8 {a : Int} (h1 : -2147483648 ≤ a) (h2 : a < 2147483648) : jI a ≤ ((-8) : Int32) ↔ a ≤ (-8) := by rw [show ((-8) : Int32) = jI (-8) from jn_lit 8]; exact jI_le ⟨h1, h2⟩ ⟨by decide, by decide⟩
theorem r_le_m8 {a : Int} (h1 : -2147483648 ≤ a) (h2 : a < 2147483648) : ((-8) : Int32) ≤ jI a ↔ (-8) ≤ a := by rw [show ((-8) : Int32) = jI (-8) from jn_lit 8]; exact jI_le ⟨by decide, by decide⟩ ⟨h1, h2⟩
theorem q_eq_m8 {a : Int} (h1 : -2147483648 ≤ a) (h2 : a < 2147483648) : jI a = ((-8) : Int32) ↔ a = (-8) := by rw [show ((-8) : Int32) = jI (-8) from jn_lit 8]; exact jI_eq ⟨h1, h2⟩ ⟨by decide, by decide⟩
theorem q_add_m8 {a : Int} : jI a + ((-8) : Int32) = jI (a + (-8)) := by rw [show ((-8) : Int32) = jI (-8) from jn_lit 8]; exact jI_add a (-8)
theorem q_lt_m9 {a : Int} (h1 : -2147483648 ≤ a) (h2 : a < 2147483648) : jI a < ((-9) : Int32) ↔ a < (-9) := by rw [show ((-9) : Int32) = jI (-9) from jn_lit 9]; exact jI_lt ⟨h1, h2⟩ ⟨by decide, by decide⟩
theorem r_lt_m9 {a : Int} (h1 : -2147483648 ≤ a) (h2 : a < 2147483648) : ((-9) : Int32) < jI a ↔ (-9) < a := by rw [show ((-9) : Int32) = jI (-9) from jn_lit 9]; exact jI_lt ⟨by decide, by decide⟩ ⟨h1, h2⟩
theorem q_le_m9 {a : Int} (h1 : -2147483648 ≤ a) (h2 : a < 2147483648) : jI a ≤ ((-9) : Int32) ↔ a ≤ (-9) := by rw [show ((-9) : Int32) = jI (-9) from jn_lit 9]; exact jI_le ⟨h1, h2⟩ ⟨by decide, by decide⟩
theorem r_le_m9 {a : Int} (h1 : -2147483648 ≤ a) (h2 : a < 2147483648) : ((-9) : Int32) ≤ jI a ↔ (-9) ≤ a := by rw [show ((-9) : Int32) = jI (-9) from jn_lit 9]; exact jI_le ⟨by decide, by decide⟩ ⟨h1, h2⟩
theorem q_eq_m9 {a : Int} (h1 : -2147483648 ≤ a) (h2 : a < 2147483648) : jI a = ((-9) : Int32) ↔ a = (-9) := by rw [show ((-9) : Int32) = jI (-9) from jn_lit 9]; exact jI_eq ⟨h1, h2⟩ ⟨by decide, by decide⟩
theorem q_add_m9 {a : Int} : jI a + ((-9) : Int32) = jI (a + (-9)) := by rw [show ((-9) : Int32) = jI (-9) from jn_lit 9]; exact jI_add a (-9)
theorem q_lt_m10 {a : Int} (h1 : -2147483648 ≤ a) (h2 : a < 2147483648) : jI a < ((-10) : Int32) ↔ a < (-10) := by rw [show ((-10) : Int32) = jI (-10) from jn_lit 10]; exact jI_lt ⟨h1, h2⟩ ⟨by decide, by decide⟩
theorem r_lt_m10 {a : Int} (h1 : -2147483648 ≤ a) (h2 : a < 2147483648) : ((-10) : Int32) < jI a ↔ (-10) < a := by rw [show ((-10) : Int32) = jI (-10) from jn_lit 10]; exact jI_lt ⟨by decide, by decide⟩ ⟨h1, h2⟩
theorem q_le_m10 {a : Int} (h1 : -2147483648 ≤ a) (h2 : a < 2147483648) : jI a ≤ ((-10) : Int32) ↔ a ≤ (-10) := by rw [show ((-10) : Int32) = jI (-10) from jn_lit 10]; exact jI_le ⟨h1, h2⟩ ⟨by decide, by decide⟩
theorem r_le_m10 {a : Int} (h1 : -2147483648 ≤ a) (h2 : a < 2147483648) : ((-10) : Int32) ≤ jI a ↔ (-10) ≤ a := by rw [show ((-10) : Int32) = jI (-10) from jn_lit 10]; exact jI_le ⟨by decide, by decide⟩ ⟨h1, h2⟩
theorem q_eq_m10 {a : Int} (h1 : -2147483648 ≤ a) (h2 : a < 2147483648) : jI a = ((-10) : Int32) ↔ a = (-10) := by rw [show ((-10) : Int32) = jI (-10) from jn_lit 10]; exact jI_eq ⟨h1, h2⟩ ⟨by decide, by decide⟩
theorem q_add_m10 {a : Int} : jI a + ((-10) : Int32) = jI (a + (-10)) := by rw [show ((-10) : Int32) = jI (-10) from jn_lit 10]; exact jI_add a (-10)
theorem q_lt_m11 {a : Int} (h1 : -2147483648 ≤ a) (h2 : a < 2147483648) : jI a < ((-11) : Int32) ↔ a < (-11) := by rw [show ((-11) : Int32) = jI (-11) from jn_lit 11]; exact jI_lt ⟨h1, h2⟩ ⟨by decide, by decide⟩
theorem r_lt_m11 {a : Int} (h1 : -2147483648 ≤ a) (h2 : a < 2147483648) : ((-11) : Int32) < jI a ↔ (-11) < a := by rw [show ((-11) : Int32) = jI (-11) from jn_lit 11]; exact jI_lt ⟨by decide, by decide⟩ ⟨h1, h2⟩
theorem q_le_m11 {a : Int} (h1 : -2147483648 ≤ a) (h2 : a < 2147483648) : jI a ≤ ((-11) : Int32) ↔ a ≤ (-11) := by rw [show ((-11) : Int32) = jI (-11) from jn_lit 11]; exact jI_le ⟨h1, h2⟩ ⟨by decide, by decide⟩
theorem r_le_m11 {a : Int} (h1 : -2147483648 ≤ a) (h2 : a < 2147483648) : ((-11) : Int32) ≤ jI a ↔ (-11) ≤ a := by rw [show ((-11) : Int32) = jI (-11) from jn_lit 11]; exact jI_le ⟨by decide, by decide⟩ ⟨h1, h2⟩
theorem q_eq_m11 {a : Int} (h1 : -2147483648 ≤ a) (h2 : a < 2147483648) : jI a = ((-11) : Int32) ↔ a = (-11) := by rw [show ((-11) : Int32) = jI (-11) from jn_lit 11]; exact jI_eq ⟨h1, h2⟩ ⟨by decide, by decide⟩
theorem q_add_m11 {a : Int} : jI a + ((-11) : Int32) = jI (a + (-11)) := by rw [show ((-11) : Int32) = jI (-11) from jn_lit 11]; exact jI_add a (-11)
theorem q_lt_m12 {a : Int} (h1 : -2147483648 ≤ a) (h2 : a < 2147483648) : jI a < ((-12) : Int32) ↔ a < (-12) := by rw [show ((-12) : Int32) = jI (-12) from jn_lit 12]; exact jI_lt ⟨h1, h2⟩ ⟨by decide, by decide⟩
theorem r_lt_m12 {a : Int} (h1 : -2147483648 ≤ a) (h2 : a < 2147483648) : ((-12) : Int32) < jI a ↔ (-12) < a := by rw [show ((-12) : Int32) = jI (-12) from jn_lit 12]; exact jI_lt ⟨by decide, by decide⟩ ⟨h1, h2⟩
theorem q_le_m12 {a : Int} (h1 : -2147483648 ≤ a) (h2 : a < 2147483648) : jI a ≤ ((-12) : Int32) ↔ a ≤ (-12) := by rw [show ((-12) : Int32) = jI (-12) from jn_lit 12]; exact jI_le ⟨h1, h2⟩ ⟨by decide, by decide⟩
theorem r_le_m12 {a : Int} (h1 : -2147483648 ≤ a) (h2 : a < 2147483648) : ((-12) : Int32) ≤ jI a ↔ (-12) ≤ a := by rw [show ((-12) : Int32) = jI (-12) from jn_lit 12]; exact jI_le ⟨by decide, by decide⟩ ⟨h1, h2⟩
theorem q_eq_m12 {a : Int} (h1 : -2147483648 ≤ a) (h2 : a < 2147483648) : jI a = ((-12) : Int32) ↔ a = (-12) := by rw [show ((-12) : Int32) = jI (-12) from jn_lit 12]; exact jI_eq ⟨h1, h2⟩ ⟨by decide, by decide⟩
theorem q_add_m12 {a : Int} : jI a + ((-12) : Int32) = jI (a + (-12)) := by rw [show ((-12) : Int32) = jI (-12) from jn_lit 12]; exact jI_add a (-12)
theorem q_lt_m13 {a : Int} (h1 : -2147483648 ≤ a) (h2 : a < 2147483648) : jI a < ((-13) : Int32) ↔ a < (-13) := by rw [show ((-13) : Int32) = jI (-13) from jn_lit 13]; exact jI_lt ⟨h1, h2⟩ ⟨by decide, by decide⟩
theorem r_lt_m13 {a : Int} (h1 : -2147483648 ≤ a) (h2 : a < 2147483648) : ((-13) : Int32) < jI a ↔ (-13) < a := by rw [show ((-13) : Int32) = jI (-13) from jn_lit 13]; exact jI_lt ⟨by decide, by decide⟩ ⟨h1, h2⟩
theorem q_le_m13 {a : Int} (h1 : -2147483648 ≤ a) (h2 : a < 2147483648) : jI a ≤ ((-13) : Int32) ↔ a ≤ (-13) := by rw [show ((-13) : Int32) = jI (-13) from jn_lit 13]; exact jI_le ⟨h1, h2⟩ ⟨by decide, by decide⟩
theorem r_le_m13 {a : Int} (h1 : -2147483648 ≤ a) (h2 : a < 2147483648) : ((-13) : Int32) ≤ jI a ↔ (-13) ≤ a := by rw [show ((-13) : Int32) = jI (-13) from jn_lit 13]; exact jI_le ⟨by decide, by decide⟩ ⟨h1, h2⟩
theorem q_eq_m13 {a : Int} (h1 : -2147483648 ≤ a) (h2 : a < 2147483648) : jI a = ((-13) : Int32) ↔ a = (-13) := by rw [show ((-13) : Int32) = jI (-13) from jn_lit 13]; exact jI_eq ⟨h1, h2⟩ ⟨by decide, by decide⟩
theorem q_add_m13 {a : Int} : jI a + ((-13) : Int32) = jI (a + (-13)) := by rw [show ((-13) : Int32) = jI (-13) from jn_lit 13]; exact jI_add a (-13)
theorem q_lt_m14 {a : Int} (h1 : -2147483648 ≤ a) (h2 : a < 2147483648) : jI a < ((-14) : Int32) ↔ a < (-14) := by rw [show ((-14) : Int32) = jI (-14) from jn_lit 14]; exact jI_lt ⟨h1, h2⟩ ⟨by decide, by decide⟩
theorem r_lt_m14 {a : Int} (h1 : -2147483648 ≤ a) (h2 : a < 2147483648) : ((-14) : Int32) < jI a ↔ (-14) < a := by rw [show ((-14) : Int32) = jI (-14) from jn_lit 14]; exact jI_lt ⟨by decide, by decide⟩ ⟨h1, h2⟩
theorem q_le_m14 {a : Int} (h1 : -2147483648 ≤ a) (h2 : a < 2147483648) : jI a ≤ ((-14) : Int32) ↔ a ≤ (-14) := by rw [show ((-14) : Int32) = jI (-14) from jn_lit 14]; exact jI_le ⟨h1, h2⟩ ⟨by decide, by decide⟩
theorem r_le_m14 {a : Int} (h1 : -2147483648 ≤ a) (h2 : a < 2147483648) : ((-14) : Int32) ≤ jI a ↔ (-14) ≤ a := by rw [show ((-14) : Int32) = jI (-14) from jn_lit 14]; exact jI_le ⟨by decide, by decide⟩ ⟨h1, h2⟩
theorem q_eq_m14 {a : Int} (h1 : -2147483648 ≤ a) (h2 : a < 2147483648) : jI a = ((-14) : Int32) ↔ a = (-14) := by rw [show ((-14) : Int32) = jI (-14) from jn_lit 14]; exact jI_eq ⟨h1, h2⟩ ⟨by decide, by decide⟩
theorem q_add_m14 {a : Int} : jI a + ((-14) : Int32) = jI (a + (-14)) := by rw [show ((-14) : Int32) = jI (-14) from jn_lit 14]; exact jI_add a (-14)
theorem q_lt_m15 {a : Int} (h1 : -2147483648 ≤ a) (h2 : a < 2147483648) : jI a < ((-15) : Int32) ↔ a < (-15) := by rw [show ((-15) : Int32) = jI (-15) from jn_lit 15]; exact jI_lt ⟨h1, h2⟩ ⟨by decide, by decide⟩
theorem r_lt_m15 {a : Int} (h1 : -2147483648 ≤ a) (h2 : a < 2147483648) : ((-15) : Int32) < jI a ↔ (-15) < a := by rw [show ((-15) : Int32) = jI (-15) from jn_lit 15]; exact jI_lt ⟨by decide, by decide⟩ ⟨h1, h2⟩
theorem q_le_m15 {a : Int} (h1 : -2147483648 ≤ a) (h2 : a < 2147483648) : jI a ≤ ((-15) : Int32) ↔ a ≤ (-15) := by rw [show ((-15) : Int32) = jI (-15) from jn_lit 15]; exact jI_le ⟨h1, h2⟩ ⟨by decide, by decide⟩
theorem r_le_m15 {a : Int} (h1 : -2147483648 ≤ a) (h2 : a < 2147483648) : ((-15) : Int32) ≤ jI a ↔ (-15) ≤ a := by rw [show ((-15) : Int32) = jI (-15) from jn_lit 15]; exact jI_le ⟨by decide, by decide⟩ ⟨h1, h2⟩
theorem q_eq_m15 {a : Int} (h1 : -2147483648 ≤ a) (h2 : a < 2147483648) : jI a = ((-15) : Int32) ↔ a = (-15) := by rw [show ((-15) : Int32) = jI (-15) from jn_lit 15]; exact jI_eq ⟨h1, h2⟩ ⟨by decide, by decide⟩
theorem q_add_m15 {a : Int} : jI a + ((-15) : Int32) = jI (a + (-15)) := by rw [show ((-15) : Int32) = jI (-15) from jn_lit 15]; exact jI_add a (-15)
theorem q_lt_m16 {a : Int} (h1 : -2147483648 ≤ a) (h2 : a < 2147483648) : jI a < ((-16) : Int32) ↔ a < (-16) := by rw [show ((-16) : Int32) = jI (-16) from jn_lit 16]; exact jI_lt ⟨h1, h2⟩ ⟨by decide, by decide⟩
theorem r_lt_m16 {a : Int} (h1 : -2147483648 ≤ a) (h2 : a < 2147483648) : ((-16) : Int32) < jI a ↔ (-16) < a := by rw [show ((-16) : Int32) = jI (-16) from jn_lit 16]; exact jI_lt ⟨by decide, by decide⟩ ⟨h1, h2⟩
theorem q_le_m16 {a : Int} (h1 : -2147483648 ≤ a) (h2 : a < 2147483648) : jI a ≤ ((-16) : Int32) ↔ a ≤ (-16) := by rw [show ((-16) : Int32) = jI (-16) from jn_lit 16]; exact jI_le ⟨h1, h2⟩ ⟨by decide, by decide⟩
theorem r_le_m16 {a : Int} (h1 : -2147483648 ≤ a) (h2 : a < 2147483648) : ((-16) : Int32) ≤ jI a ↔ (-16) ≤ a := by rw [show ((-16) : Int32) = jI (-16) from jn_lit 16]; exact jI_le ⟨by decide, by decide⟩ ⟨h1, h2⟩
theorem q_eq_m16 {a : Int} (h1 : -2147483648 ≤ a) (h2 : a < 2147483648) : jI a = ((-16) : Int32) ↔ a = (-16) := by rw [show ((-16) : Int32) = jI (-16) from jn_lit 16]; exact jI_eq ⟨h1, h2⟩ ⟨by decide, by decide⟩
theorem q_add_m16 {a : Int} : jI a + ((-16) : Int32) = jI (a + (-16)) := by rw [show ((-16) : Int32) = jI (-16) from jn_lit 16]; exact jI_add a (-16)
theorem q_lt_m17 {a : Int} (h1 : -2147483648 ≤ a) (h2 : a < 2147483648) : jI a < ((-17) : Int32) ↔ a < (-17) := by rw [show ((-17) : Int32) = jI (-17) from jn_lit 17]; exact jI_lt ⟨h1, h2⟩ ⟨by decide, by decide⟩
theorem r_lt_m17 {a : Int} (h1 : -2147483648 ≤ a) (h2 : a < 2147483648) : ((-17) : Int32) < jI a ↔ (-17) < a := by rw [show ((-17) : Int32) = jI (-17) from jn_lit 17]; exact jI_lt ⟨by decide, by decide⟩ ⟨h1, h2⟩
theorem q_le_m17 {a : Int} (h1 : -2147483648 ≤ a) (h2 : a < 2147483648) : jI a ≤ ((-17) : Int32) ↔ a ≤ (-17) := by rw [show ((-17) : Int32) = jI (-17) from jn_lit 17]; exact jI_le ⟨h1, h2⟩ ⟨by decide, by decide⟩
theorem r_le_m17 {a : Int} (h1 : -2147483648 ≤ a) (h2 : a < 2147483648) : ((-17) : Int32) ≤ jI a ↔ (-17) ≤ a := by rw [show ((-17) : Int32) = jI (-17) from jn_lit 17]; exact jI_le ⟨by decide, by decide⟩ ⟨h1, h2⟩
theorem q_eq_m17 {a : Int} (h1 : -2147483648 ≤ a) (h2 : a < 2147483648) : jI a = ((-17) : Int32) ↔ a = (-17) := by rw [show ((-17) : Int32) = jI (-17) from jn_lit 17]; exact jI_eq ⟨h1, h2⟩ ⟨by decide, by decide⟩
theorem q_add_m17 {a : Int} : jI a + ((-17) : Int32) = jI (a + (-17)) := by rw [show ((-17) : Int32) = jI (-17) from jn_lit 17]; exact jI_add a (-17)
theorem q_lt_m18 {a : Int} (h1 : -2147483648 ≤ a) (h2 : a < 2147483648) : jI a < ((-18) : Int32) ↔ a < (-18) := by rw [show ((-18) : Int32) = jI (-18) from jn_lit 18]; exact jI_lt ⟨h1, h2⟩ ⟨by decide, by decide⟩
theorem r_lt_m18 {a : Int} (h1 : -2147483648 ≤ a) (h2 : a < 2147483648) : ((-18) : Int32) < jI a ↔ (-18) < a := by rw [show ((-18) : Int32) = jI (-18) from jn_lit 18]; exact jI_lt ⟨by decide, by decide⟩ ⟨h1, h2⟩
theorem q_le_m18 {a : Int} (h1 : -2147483648 ≤ a) (h2 : a < 2147483648) : jI a ≤ ((-18) : Int32) ↔ a ≤ (-18) := by rw [show ((-18) : Int32) = jI (-18) from jn_lit 18]; exact jI_le ⟨h1, h2⟩ ⟨by decide, by decide⟩
theorem r_le_m18 {a : Int} (h1 : -2147483648 ≤ a) (h2 : a < 2147483648) : ((-18) : Int32) ≤ jI a ↔ (-18) ≤ a := by rw [show ((-18) : Int32) = jI (-18) from jn_lit 18]; exact jI_le ⟨by decide, by decide⟩ ⟨h1, h2⟩
theorem q_eq_m18 {a : Int} (h1 : -2147483648 ≤ a) (h2 : a < 2147483648) : jI a = ((-18) : Int32) ↔ a = (-18) := by rw [show ((-18) : Int32) = jI (-18) from jn_lit 18]; exact jI_eq ⟨h1, h2⟩ ⟨by decide, by decide⟩
theorem q_add_m18 {a : Int} : jI a + ((-18) : Int32) = jI (a + (-18)) := by rw [show ((-18) : Int32) = jI (-18) from jn_lit 18]; exact jI_add a (-18)
theorem q_lt_m19 {a : Int} (h1 : -2147483648 ≤ a) (h2 : a < 2147483648) : jI a < ((-19) : Int32) ↔ a < (-19) := by rw [show ((-19) : Int32) = jI (-19) from jn_lit 19]; exact jI_lt ⟨h1, h2⟩ ⟨by decide, by decide⟩
theorem r_lt_m19 {a : Int} (h1 : -2147483648 ≤ a) (h2 : a < 2147483648) : ((-19) : Int32) < jI a ↔ (-19) < a := by rw [show ((-19) : Int32) = jI (-19) from jn_lit 19]; exact jI_lt ⟨by decide, by decide⟩ ⟨h1, h2⟩
theorem q_le_m19 {a : Int} (h1 : -2147483648 ≤ a) (h2 : a < 2147483648) : jI a ≤ ((-19) : Int32) ↔ a ≤ (-19) := by rw [show ((-19) : Int32) = jI (-19) from jn_lit 19]; exact jI_le ⟨h1, h2⟩ ⟨by decide, by decide⟩
theorem r_le_m19 {a : Int} (h1 : -2147483648 ≤ a) (h2 : a < 2147483648) : ((-19) : Int32) ≤ jI a ↔ (-19) ≤ a := by rw [show ((-19) : Int32) = jI (-19) from jn_lit 19]; exact jI_le ⟨by decide, by decide⟩ ⟨h1, h2⟩
theorem q_eq_m19 {a : Int} (h1 : -2147483648 ≤ a) (h2 : a < 2147483648) : jI a = ((-19) : Int32) ↔ a = (-19) := by rw [show ((-19) : Int32) = jI (-19) from jn_lit 19]; exact jI_eq ⟨h1, h2⟩ ⟨by decide, by decide⟩
theorem q_add_m19 {a : Int} : jI a + ((-19) : Int32) = jI (a + (-19)) := by rw [show ((-19) : Int32) = jI (-19) from jn_lit 19]; exact jI_add a (-19)
theorem q_lt_m100 {a : Int} (h1 : -2147483648 ≤ a) (h2 : a < 2147483648) : jI a < ((-100) : Int32) ↔ a < (-100) := by rw [show ((-100) : Int32) = jI (-100) from jn_lit 100]; exact jI_lt ⟨h1, h2⟩ ⟨by decide, by decide⟩
theorem r_lt_m100 {a : Int} (h1 : -2147483648 ≤ a) (h2 : a < 2147483648) : ((-100) : Int32) < jI a ↔ (-100) < a := by rw [show ((-100) : Int32) = jI (-100) from jn_lit 100]; exact jI_lt ⟨by decide, by decide⟩ ⟨h1, h2⟩
theorem q_le_m100 {a : Int} (h1 : -2147483648 ≤ a) (h2 : a < 2147483648) : jI a ≤ ((-100) : Int32) ↔ a ≤ (-100) := by rw [show ((-100) : Int32) = jI (-100) from jn_lit 100]; exact jI_le ⟨h1, h2⟩ ⟨by decide, by decide⟩
theorem r_le_m100 {a : Int} (h1 : -2147483648 ≤ a) (h2 : a < 2147483648) : ((-100) : Int32) ≤ jI a ↔ (-100) ≤ a := by rw [show ((-100) : Int32) = jI (-100) from jn_lit 100]; exact jI_le ⟨by decide, by decide⟩ ⟨h1, h2⟩
theorem q_eq_m100 {a : Int} (h1 : -2147483648 ≤ a) (h2 : a < 2147483648) : jI a = ((-100) : Int32) ↔ a = (-100) := by rw [show ((-100) : Int32) = jI (-100) from jn_lit 100]; exact jI_eq ⟨h1, h2⟩ ⟨by decide, by decide⟩
theorem q_add_m100 {a : Int} : jI a + ((-100) : Int32) = jI (a + (-100)) := by rw [show ((-100) : Int32) = jI (-100) from jn_lit 100]; exact jI_add a (-100)
theorem q_lt_m99 {a : Int} (h1 : -2147483648 ≤ a) (h2 : a < 2147483648) : jI a < ((-99) : Int32) ↔ a < (-99) := by rw [show ((-99) : Int32) = jI (-99) from jn_lit 99]; exact jI_lt ⟨h1, h2⟩ ⟨by decide, by decide⟩
theorem r_lt_m99 {a : Int} (h1 : -2147483648 ≤ a) (h2 : a < 2147483648) : ((-99) : Int32) < jI a ↔ (-99) < a := by rw [show ((-99) : Int32) = jI (-99) from jn_lit 99]; exact jI_lt ⟨by decide, by decide⟩ ⟨h1, h2⟩
theorem q_le_m99 {a : Int} (h1 : -2147483648 ≤ a) (h2 : a < 2147483648) : jI a ≤ ((-99) : Int32) ↔ a ≤ (-99) := by rw [show ((-99) : Int32) = jI (-99) from jn_lit 99]; exact jI_le ⟨h1, h2⟩ ⟨by decide, by decide⟩
theorem r_le_m99 {a : Int} (h1 : -2147483648 ≤ a) (h2 : a < 2147483648) : ((-99) : Int32) ≤ jI a ↔ (-99) ≤ a := by rw [show ((-99) : Int32) = jI (-99) from jn_lit 99]; exact jI_le ⟨by decide, by decide⟩ ⟨h1, h2⟩
theorem q_eq_m99 {a : Int} (h1 : -2147483648 ≤ a) (h2 : a < 2147483648) : jI a = ((-99) : Int32) ↔ a = (-99) := by rw [show ((-99) : Int32) = jI (-99) from jn_lit 99]; exact jI_eq ⟨h1, h2⟩ ⟨by decide, by decide⟩
theorem q_add_m99 {a : Int} : jI a + ((-99) : Int32) = jI (a + (-99)) := by rw [show ((-99) : Int32) = jI (-99) from jn_lit 99]; exact jI_add a (-99)
