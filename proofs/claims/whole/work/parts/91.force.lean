/-! 32 bits of an int, one by one -/
def BZ (z : Int32) (b : Nat → Bool) : Prop := ∀ i, i < 32 → z.toBitVec.getLsbD i = b i
theorem BZ.or {z y : Int32} {b c : Nat → Bool} (h : BZ z b) (k : BZ y c) : BZ (z ||| y) (fun i => b i || c i) := by
  intro i hi
  rw [Int32.toBitVec_or, BitVec.getLsbD_or, h i hi, k i hi]
theorem BZ.and {z y : Int32} {b c : Nat → Bool} (h : BZ z b) (k : BZ y c) : BZ (z &&& y) (fun i => b i && c i) := by
  intro i hi
  rw [Int32.toBitVec_and, BitVec.getLsbD_and, h i hi, k i hi]
theorem BZ.co {z : Int32} {b c : Nat → Bool} (h : BZ z b) (k : ∀ i, i < 32 → b i = c i) : BZ z c := fun i hi => (h i hi).trans (k i hi)
theorem BZ.ext {z y : Int32} {b : Nat → Bool} (h : BZ z b) (k : BZ y b) : z = y := by
  apply Int32.toBitVec_inj.mp
  apply BitVec.eq_of_getLsbD_eq
  intro i hi
  rw [h i hi, k i hi]
theorem bz_0 : BZ (jI 0) (fun _ => false) := by unfold BZ; decide +kernel
theorem bz_m : BZ (jI (-1)) (fun _ => true) := by unfold BZ; decide +kernel
theorem bz_1 : BZ (jI 1) (fun i => decide (i = 0)) := by unfold BZ; decide +kernel
theorem bz_s0 : ∀ p : Nat, p < 32 → ∀ i : Nat, i < 32 → (ai_shl (jI 1) (jI (p : Int))).toBitVec.getLsbD i = decide (i = p) := by decide +kernel
theorem bz_s {p : Nat} (hp : p < 32) : BZ (ai_shl (jI 1) (jI (p : Int))) (fun i => decide (i = p)) := bz_s0 p hp
theorem bz_d0 : ∀ p : Nat, p < 32 → ((jI (p : Int) &&& 31).toBitVec.smod 32).toNat = p := by decide +kernel
theorem bz_d1 {z : Int32} {b : Nat → Bool} (h : BZ z b) {p : Nat} (hp : p < 32) : (ai_shr z (jI (p : Int))).toBitVec.getLsbD 0 = b p := by
  unfold ai_shr
  rw [Int32.toBitVec_shiftRight, BitVec.sshiftRight_eq', bz_d0 p hp, BitVec.getLsbD_sshiftRight]
  simp [hp]
  exact (BitVec.getLsbD_eq_getElem hp).symm.trans (h p hp)
theorem BZ.bit {z : Int32} {b : Nat → Bool} (h : BZ z b) {p : Nat} (hp : p < 32) : ai_shr z (jI (p : Int)) &&& jI 1 = jI (if b p = true then 1 else 0) := by
  have h1 : BZ (ai_shr z (jI (p : Int))) (fun i => (ai_shr z (jI (p : Int))).toBitVec.getLsbD i) := fun i hi => rfl
  have h2 := h1.and bz_1
  by_cases c : b p = true
  · rw [if_pos c]
    refine h2.ext (bz_1.co (fun i hi => ?_))
    by_cases c0 : i = 0
    · subst c0
      rw [bz_d1 h hp, c]
      decide
    · simp [c0]
  · rw [if_neg c]
    refine h2.ext (bz_0.co (fun i hi => ?_))
    by_cases c0 : i = 0
    · subst c0
      have c1 : b p = false := by simpa using c
      rw [bz_d1 h hp, c1]
      decide
    · simp [c0]
def anB (M : Nat) (f : Nat → Bool) : Nat → Bool
  | 0 => false
  | n + 1 => anB M f n || (decide (M / 2 ^ n % 2 = 1) && f n)
def alB (M : Nat) (f : Nat → Bool) : Nat → Bool
  | 0 => true
  | n + 1 => alB M f n && (!decide (M / 2 ^ n % 2 = 1) || f n)
def oaB (o : Bool) (M : Nat) (f : Nat → Bool) (n : Nat) : Bool := if o = true then anB M f n else alB M f n
/-- the game with the stone at p, a turns ahead -/
def fcG (g : Nat → Int) (a p : Int) : Nat → Int := ug (ug g 2 (g 2 + a)) 1 p
def onB (s e : Int) : Bool := decide (ai_shr (jI s) (jI e) &&& jI 1 = jI 1)
def fcB (T : Nat → Nat → List Int) (g : Nat → Int) (s : Int) (t : Int) : Nat → Nat → Nat → Bool
  | 0, p, i => decide (i = p)
  | m + 1, p, i => if smF T (fcG g (t - 1 - m) p) = 0 then fcB T g s t m p i else oaB (onB s (mvF (fcG g (t - 1 - m) p))) (smF T (fcG g (t - 1 - m) p)) (fun k => fcB T g s t m (ldF (fcG g (t - 1 - m) p) ((k : Int) - 4)).toNat i) 9
