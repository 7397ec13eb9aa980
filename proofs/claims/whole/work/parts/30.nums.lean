/-! numbers: jI z is the int of z; lJ z the long -/
def jI (z : Int) : Int32 := Int32.ofInt z
def lJ (z : Int) : Int64 := Int64.ofInt z
def iR (z : Int) : Prop := -2147483648 ≤ z ∧ z < 2147483648
def vI (w : ai_H) (i k : Nat) : Int := (mI w i k).toInt
theorem jI_of (x : Int32) : jI x.toInt = x := Int32.ofInt_toInt x
theorem iR_of (x : Int32) : iR x.toInt := ⟨x.le_toInt, x.toInt_lt⟩
theorem mI_v (w : ai_H) (i k : Nat) : mI w i k = jI (vI w i k) := (jI_of _).symm
theorem vI_iR (w : ai_H) (i k : Nat) : iR (vI w i k) := iR_of _
theorem jI_toInt {z : Int} (h : iR z) : (jI z).toInt = z := Int32.toInt_ofInt_of_le h.1 h.2
theorem jI_add (a b : Int) : jI a + jI b = jI (a + b) := (Int32.ofInt_add a b).symm
theorem jI_sub (a b : Int) : jI a - jI b = jI (a - b) := (Int32.ofInt_sub a b).symm
theorem jI_mul (a b : Int) : jI a * jI b = jI (a * b) := (Int32.ofInt_mul a b).symm
theorem jI_neg (a : Int) : -jI a = jI (-a) := (Int32.ofInt_neg a).symm
theorem jI_eq {a b : Int} (ha : iR a) (hb : iR b) : jI a = jI b ↔ a = b := by
  constructor
  · intro h
    rw [← jI_toInt ha, ← jI_toInt hb, h]
  · intro h
    rw [h]
theorem jI_lt {a b : Int} (ha : iR a) (hb : iR b) : jI a < jI b ↔ a < b := by
  rw [Int32.lt_iff_toInt_lt, jI_toInt ha, jI_toInt hb]
theorem jI_le {a b : Int} (ha : iR a) (hb : iR b) : jI a ≤ jI b ↔ a ≤ b := by
  rw [Int32.le_iff_toInt_le, jI_toInt ha, jI_toInt hb]
theorem jI_lit (n : Nat) : (OfNat.ofNat n : Int32) = jI (OfNat.ofNat n : Int) := (Int32.ofInt_eq_ofNat (n := n)).symm
theorem tdiv_iR {a b : Int} (ha : iR a) (hb : iR b) (h : ¬ (a = -2147483648 ∧ b = -1)) : iR (a.tdiv b) := by
  have h1 : (a.tdiv b).natAbs = a.natAbs / b.natAbs := Int.natAbs_tdiv a b
  unfold iR at *
  by_cases hb1 : b.natAbs ≤ 1
  · by_cases hb0 : b = 0
    · subst hb0
      rw [Int.tdiv_zero]
      omega
    · have hb2 : b = 1 ∨ b = -1 := by omega
      rcases hb2 with rfl | rfl
      · rw [Int.tdiv_one]; omega
      · have h2 : a.natAbs / (-1 : Int).natAbs = a.natAbs := by simp
        rw [h2] at h1
        omega
  · have h2 : a.natAbs / b.natAbs ≤ a.natAbs / 2 := Nat.div_le_div_left (by omega) (by omega)
    omega
theorem jI_div {a b : Int} (ha : iR a) (hb : iR b) (h : ¬ (a = -2147483648 ∧ b = -1)) : jI a / jI b = jI (a.tdiv b) := by
  apply Int32.toInt_inj.mp
  rw [jI_toInt (tdiv_iR ha hb h), Int32.toInt_div, jI_toInt ha, jI_toInt hb]
  have h2 := tdiv_iR ha hb h
  unfold iR at h2
  exact Int.bmod_eq_of_le (by omega) (by omega)
theorem jI_rem {a b : Int} (ha : iR a) (hb : iR b) (h : ¬ (a = -2147483648 ∧ b = -1)) : ai_rem (jI a) (jI b) = jI (a.tmod b) := by
  unfold ai_rem
  rw [jI_div ha hb h, jI_mul, jI_sub]
  congr 1
  have := Int.tmod_add_mul_tdiv a b
  rw [Int.mul_comm] at this
  omega
theorem jI_cl {z : Int} (h : iR z) : (jI z).toNatClampNeg = z.toNat := by
  show (jI z).toInt.toNat = z.toNat
  rw [jI_toInt h]
theorem jI_ib {z : Int} (h : iR z) (n : Nat) : ai_ib (jI z) n = true ↔ 0 ≤ z ∧ z < n := by
  unfold ai_ib
  have h0 : (jI z < 0) ↔ z < 0 := by
    rw [show (0 : Int32) = jI 0 from jI_lit 0]
    exact jI_lt h ⟨by decide, by decide⟩
  rw [jI_cl h]
  simp only [Bool.not_eq_true', Bool.or_eq_false_iff, decide_eq_false_iff_not, h0]
  omega
theorem iR_lit : iR 0 ∧ iR 1 ∧ iR (-1) := ⟨⟨by decide, by decide⟩, ⟨by decide, by decide⟩, ⟨by decide, by decide⟩⟩
/-- a truth as an int -/
def b2 (p : Prop) [Decidable p] : Int32 := if p then 1 else 0
theorem b2_t {p : Prop} [Decidable p] (h : p) : b2 p = 1 := if_pos h
theorem b2_f {p : Prop} [Decidable p] (h : ¬ p) : b2 p = 0 := if_neg h
theorem b2_0 {p : Prop} [Decidable p] : b2 p = 0 ↔ ¬ p := by
  unfold b2
  by_cases h : p <;> simp [h]
theorem b2_1 {p : Prop} [Decidable p] : b2 p = 1 ↔ p := by
  unfold b2
  by_cases h : p <;> simp [h]
theorem b2_nar {p : Prop} [Decidable p] : vp_nar .boolean (b2 p) = b2 p := by
  unfold b2
  by_cases h : p
  · rw [if_pos h]; rfl
  · rw [if_neg h]; rfl
theorem b2_congr {p q : Prop} [Decidable p] [Decidable q] (h : p ↔ q) : b2 p = b2 q := by
  unfold b2
  by_cases hp : p
  · rw [if_pos hp, if_pos (h.mp hp)]
  · rw [if_neg hp, if_neg (fun z => hp (h.mpr z))]
theorem nar_0 : vp_nar .boolean (0 : Int32) = 0 := rfl
theorem nar_1 : vp_nar .boolean (1 : Int32) = 1 := rfl
theorem ai_rf_s (a : Nat) : ai_rf (some a) = .ref a := rfl
theorem ai_rf_n : ai_rf none = .null := rfl
theorem ai_kl_i (x : Int32) : ai_kl (some (.int x)) = some (.int x) := rfl
theorem ai_kl_r (x : Nat) : ai_kl (some (.ref x)) = some (.ref x) := rfl
theorem ai_kl_n : ai_kl none = none := rfl
theorem fin_t {p : Prop} [Decidable p] {Q : Option Value → ai_H → Prop} {w : ai_H} (h : p) : Q (some (.int 1)) w ↔ Q (some (.int (b2 p))) w := by rw [b2_t h]
theorem fin_f {p : Prop} [Decidable p] {Q : Option Value → ai_H → Prop} {w : ai_H} (h : ¬ p) : Q (some (.int 0)) w ↔ Q (some (.int (b2 p))) w := by rw [b2_f h]
theorem fin_e {x y : Int32} {Q : Option Value → ai_H → Prop} {w : ai_H} (h : x = y) : Q (some (.int x)) w ↔ Q (some (.int y)) w := by rw [h]
def bcF (x : Int32) : Int32 :=
  let a := x - (ai_ushr x 1 &&& 1431655765)
  let b := (a &&& 858993459) + (ai_ushr a 2 &&& 858993459)
  let c := (b + ai_ushr b 4) &&& 252645135
  let e := c + ai_ushr c 8
  (e + ai_ushr e 16) &&& 63
theorem xor_sign {x y : Int32} (hy : 0 ≤ y) : 0 ≤ x ^^^ y ↔ 0 ≤ x := by
  have key : ∀ z : Int32, 0 ≤ z ↔ z.toBitVec.msb = false := by
    intro z
    rw [Int32.le_iff_toInt_le]
    show (0 : Int) ≤ z.toBitVec.toInt ↔ _
    rw [BitVec.msb_eq_toInt]
    simp
  rw [key, key] at *
  show (x.toBitVec ^^^ y.toBitVec).msb = false ↔ _
  rw [BitVec.msb_xor, hy]
  simp
theorem fm_eq {a n : Int} (ha : iR a) (hn : iR n) (h0 : 0 < n) : (if 0 ≤ jI a ^^^ jI n then ai_rem (jI a) (jI n) else if ai_rem (jI a) (jI n) = 0 then ai_rem (jI a) (jI n) else ai_rem (jI a) (jI n) + jI n) = jI (a % n) := by
  have hz : (0 : Int32) = jI 0 := jI_lit 0
  have h1 : 0 ≤ jI n := by
    rw [hz, jI_le iR_lit.1 hn]
    omega
  have hr := jI_rem ha hn (by omega)
  have ht1 : -n < a.tmod n := Int.lt_tmod_of_pos a h0
  have ht2 : a.tmod n < n := Int.tmod_lt_of_pos a h0
  have hti : iR (a.tmod n) := by unfold iR at *; omega
  rw [hr]
  by_cases hs : 0 ≤ a
  · rw [if_pos ((xor_sign h1).mpr (by rw [hz, jI_le iR_lit.1 ha]; exact hs)), Int.tmod_eq_emod_of_nonneg hs]
  · have hs2 : ¬ 0 ≤ jI a ^^^ jI n := fun z => hs (by
      have := (xor_sign h1).mp z
      rwa [hz, jI_le iR_lit.1 ha] at this)
    rw [if_neg hs2]
    have hd := Int.mul_tdiv_add_tmod a n
    have hneg : a.tmod n ≤ 0 := by
      have h := Int.tmod_nonneg n (a := -a) (by omega)
      rw [Int.neg_tmod] at h
      omega
    by_cases h2 : a.tmod n = 0
    · rw [h2, if_pos (by rw [hz])]
      have h3 : a % n = 0 := Int.emod_eq_zero_of_dvd (Int.dvd_of_tmod_eq_zero h2)
      rw [h3]
    · rw [if_neg (by rw [hz, jI_eq hti iR_lit.1]; exact h2), jI_add]
      congr 1
      have h4 : a = (a.tmod n + n) + n * (a.tdiv n - 1) := by
        have h5 : n * (a.tdiv n - 1) = n * a.tdiv n - n := by rw [Int.mul_sub, Int.mul_one]
        rw [h5]
        omega
      have h6 : a % n = (a.tmod n + n) % n := by
        conv => lhs; rw [h4]
        exact Int.add_mul_emod_self_left _ _ _
      rw [h6, Int.emod_eq_of_lt (by omega) (by omega)]
theorem fold_i {c : Prop} [Decidable c] {Q : Option Value → ai_H → Prop} {w : ai_H} {x y : Int32} : (if c then Q (some (.int x)) w else Q (some (.int y)) w) ↔ Q (some (.int (if c then x else y))) w := by
  split <;> exact Iff.rfl
theorem fold_l {c : Prop} [Decidable c] {Q : Option Value → ai_H → Prop} {w : ai_H} {x y : Int64} : (if c then Q (some (.long x)) w else Q (some (.long y)) w) ↔ Q (some (.long (if c then x else y))) w := by
  split <;> exact Iff.rfl
