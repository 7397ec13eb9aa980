/-! from the last turn back: the plain functions -/
def upS (st : Int × Int × Int × Int) (s r c v : Int) : Int × Int × Int × Int := if st.1 < 0 ∨ st.2.1 < v then (c, v, s, r) else st
def bsI (F : Int → Int → Int) (V : Int → Int) (s : Int) : Nat → Nat → Int × Int × Int × Int → Int × Int × Int × Int
  | 0, _, st => st
  | m + 1, r, st => bsI F V s m (r + 1) (upS st s r (F s r) (V (F s r)))
def bsO (F : Int → Int → Int) (V : Int → Int) (mask N : Nat) : Nat → Nat → Int × Int × Int × Int → Int × Int × Int × Int
  | 0, _, st => st
  | m + 1, i, st => bsO F V mask N m (i + 1) (if mask / 2 ^ i % 2 = 1 then bsI F V ((i : Int) - 4) N 0 st else st)
def lsV (g : Nat → Int) : Int := if 0 < g (40 + (mvF g).toNat) then g (40 + (mvF g).toNat) else 0
def rsN (g : Nat → Int) (t : Nat) : Nat := if g 3 < (t : Int) then 4 else 1
def bsE (T : Nat → Nat → List Int) : Nat → (Nat → Int) → Int × Int × Int
  | 0, g => (g 1, 0, 0)
  | t + 1, g => if (bsO (fun s r => (bsE T t (ttF g s r)).1) (fun c => syF T g 1 (mvF g) (lsV g) 0 c) (smF T g) (rsN g (t + 1)) 9 0 (-1, 0, 0, 3)).1 < 0 then ((bsE T t (ttF g 0 3)).1, 0, 3) else ((bsO (fun s r => (bsE T t (ttF g s r)).1) (fun c => syF T g 1 (mvF g) (lsV g) 0 c) (smF T g) (rsN g (t + 1)) 9 0 (-1, 0, 0, 3)).1, (bsO (fun s r => (bsE T t (ttF g s r)).1) (fun c => syF T g 1 (mvF g) (lsV g) 0 c) (smF T g) (rsN g (t + 1)) 9 0 (-1, 0, 0, 3)).2.2)
def SI (P : Int) (st : Int × Int × Int × Int) : Prop := ((st.1 = -1 ∧ st.2.1 = 0 ∧ st.2.2.1 = 0 ∧ st.2.2.2 = 3) ∨ (0 ≤ st.1 ∧ st.1 < P)) ∧ -99 ≤ st.2.1 ∧ st.2.1 ≤ 99 ∧ -4 ≤ st.2.2.1 ∧ st.2.2.1 ≤ 4 ∧ 0 ≤ st.2.2.2 ∧ st.2.2.2 ≤ 3
theorem SI.up {P : Int} {st : Int × Int × Int × Int} (h : SI P st) {s r c v : Int} (s0 : -4 ≤ s) (s1 : s ≤ 4) (r0 : 0 ≤ r) (r1 : r ≤ 3) (c0 : 0 ≤ c) (c1 : c < P) (v0 : -99 ≤ v) (v1 : v ≤ 99) : SI P (upS st s r c v) ∧ 0 ≤ (upS st s r c v).1 := by
  unfold upS
  split
  · exact ⟨⟨Or.inr ⟨c0, c1⟩, v0, v1, s0, s1, r0, r1⟩, c0⟩
  · rename_i hn
    refine ⟨h, ?_⟩
    omega
theorem bsI_b {P : Int} {F : Int → Int → Int} {V : Int → Int} {s : Int} (s0 : -4 ≤ s) (s1 : s ≤ 4) (hF : ∀ s r, -4 ≤ s → s ≤ 4 → 0 ≤ r → r ≤ 3 → 0 ≤ F s r ∧ F s r < P) (hV : ∀ c, -99 ≤ V c ∧ V c ≤ 99) : ∀ (m r : Nat) (st : Int × Int × Int × Int), r + m ≤ 4 → SI P st → SI P (bsI F V s m r st) ∧ (1 ≤ m ∨ 0 ≤ st.1 → 0 ≤ (bsI F V s m r st).1) := by
  intro m
  induction m with
  | zero =>
    intro r st h1 h2
    exact ⟨h2, fun z => z.elim (fun y => by omega) (fun y => y)⟩
  | succ m ih =>
    intro r st h1 h2
    have hf := hF s r s0 s1 (by omega) (by omega)
    have hv := hV (F s r)
    have hu := h2.up (s := s) (r := r) s0 s1 (by omega) (by omega) hf.1 hf.2 hv.1 hv.2
    have := ih (r + 1) _ (by omega) hu.1
    exact ⟨this.1, fun _ => this.2 (Or.inr hu.2)⟩
theorem bsO_b {P : Int} {F : Int → Int → Int} {V : Int → Int} {mask N : Nat} (hN : 1 ≤ N ∧ N ≤ 4) (hF : ∀ s r, -4 ≤ s → s ≤ 4 → 0 ≤ r → r ≤ 3 → 0 ≤ F s r ∧ F s r < P) (hV : ∀ c, -99 ≤ V c ∧ V c ≤ 99) : ∀ (m i : Nat) (st : Int × Int × Int × Int), i + m ≤ 9 → SI P st → SI P (bsO F V mask N m i st) ∧ (0 ≤ st.1 ∨ (∃ j, i ≤ j ∧ j < i + m ∧ mask / 2 ^ j % 2 = 1) → 0 ≤ (bsO F V mask N m i st).1) := by
  intro m
  induction m with
  | zero =>
    intro i st h1 h2
    exact ⟨h2, fun z => z.elim (fun y => y) (fun ⟨j, a, b, _⟩ => by omega)⟩
  | succ m ih =>
    intro i st h1 h2
    unfold bsO
    by_cases c : mask / 2 ^ i % 2 = 1
    · rw [if_pos c]
      have hi := bsI_b (P := P) (F := F) (V := V) (s := (i : Int) - 4) (by omega) (by omega) hF hV N 0 st (by omega) h2
      have := ih (i + 1) _ (by omega) hi.1
      exact ⟨this.1, fun _ => this.2 (Or.inl (hi.2 (Or.inl hN.1)))⟩
    · rw [if_neg c]
      have := ih (i + 1) st (by omega) h2
      refine ⟨this.1, fun z => this.2 ?_⟩
      rcases z with z | ⟨j, a, b, e⟩
      · exact Or.inl z
      · right
        refine ⟨j, ?_, by omega, e⟩
        by_cases hj : j = i
        · rw [hj] at e
          exact absurd e c
        · omega
theorem bsO_0 {F : Int → Int → Int} {V : Int → Int} {N : Nat} : ∀ (m i : Nat) (st : Int × Int × Int × Int), bsO F V 0 N m i st = st := by
  intro m
  induction m with
  | zero => intro i st; rfl
  | succ m ih =>
    intro i st
    unfold bsO
    rw [if_neg (by rw [Nat.zero_div]; decide), ih]
theorem bit_ex0 : ((List.range 512).all fun m => decide (m = 0 ∨ ((List.range 9).any fun j => decide (m / 2 ^ j % 2 = 1)) = true)) = true := by decide +kernel
theorem bit_ex {m : Nat} (hm : m < 512) (h0 : ¬ m = 0) : ∃ j, j < 9 ∧ m / 2 ^ j % 2 = 1 := by
  have h := of_decide_eq_true (List.all_eq_true.mp bit_ex0 m (List.mem_range.mpr hm))
  rcases h with h | h
  · exact absurd h h0
  · obtain ⟨j, hj, e⟩ := List.any_eq_true.mp h
    exact ⟨j, List.mem_range.mp hj, of_decide_eq_true e⟩
theorem rsN_b (g : Nat → Int) (t : Nat) : 1 ≤ rsN g t ∧ rsN g t ≤ 4 := by
  unfold rsN
  split <;> omega
theorem lsV_b {g : Nat → Int} (h : GB g) (h1 : 1 ≤ g 3) : 0 ≤ lsV g ∧ lsV g ≤ 3 := by
  have mb := mvF_b h h1
  have ge := h.2 (mvF g).toNat (by omega)
  unfold GE at ge
  unfold lsV
  split <;> omega
theorem SI_0 (P : Int) : SI P (-1, 0, 0, 3) := ⟨Or.inl ⟨rfl, rfl, rfl, rfl⟩, by decide, by decide, by decide, by decide, by decide, by decide⟩
theorem bsE_b (T : Nat → Nat → List Int) : ∀ (t : Nat) (g : Nat → Int), GB g → 1 ≤ g 3 → g 2 + t < 1000 → (0 ≤ (bsE T t g).1 ∧ (bsE T t g).1 < g 0) ∧ -4 ≤ (bsE T t g).2.1 ∧ (bsE T t g).2.1 ≤ 4 ∧ 0 ≤ (bsE T t g).2.2 ∧ (bsE T t g).2.2 ≤ 3 := by
  intro t
  induction t with
  | zero =>
    intro g h1 h2 h3
    have b := h1.b
    exact ⟨⟨b.2.2.1, b.2.2.2.1⟩, by show (-4 : Int) ≤ 0; omega, by show (0 : Int) ≤ 4; omega, by show (0 : Int) ≤ 0; omega, by show (0 : Int) ≤ 3; omega⟩
  | succ t ih =>
    intro g h1 h2 h3
    have b := h1.b
    have hF : ∀ s r : Int, -4 ≤ s → s ≤ 4 → 0 ≤ r → r ≤ 3 → 0 ≤ (bsE T t (ttF g s r)).1 ∧ (bsE T t (ttF g s r)).1 < g 0 := fun s r s0 s1 r0 r1 => by
      have := (ih (ttF g s r) (ttF_gb h1 h2 (by omega) (by omega) r1) (by rw [ttF_3]; exact h2) (by rw [ttF_2]; omega)).1
      rw [ttF_0] at this
      exact this
    have ho := bsO_b (P := g 0) (F := fun s r => (bsE T t (ttF g s r)).1) (V := fun c => syF T g 1 (mvF g) (lsV g) 0 c) (mask := smF T g) (rsN_b g (t + 1)) hF (fun c => syF_b1 T g 1 _ _ _ c) 9 0 (-1, 0, 0, 3) (by decide) (SI_0 _)
    unfold bsE
    split
    · have := hF 0 3 (by decide) (by decide) (by decide) (by decide)
      exact ⟨this, by show (-4 : Int) ≤ 0; omega, by show (0 : Int) ≤ 4; omega, by show (0 : Int) ≤ 3; omega, by show (3 : Int) ≤ 3; omega⟩
    · rename_i hn
      obtain ⟨h4, h5, h6, h7, h8, h9, h10⟩ := ho.1
      exact ⟨by
        rcases h4 with h4 | h4
        · exact absurd (by rw [h4.1]; decide) hn
        · exact h4, h7, h8, h9, h10⟩
theorem ttF_back {g : Nat → Int} {s r : Int} : ug (ug (ug (ttF g s r) 2 (g 2)) 1 (g 1)) (40 + (mvF g).toNat) (g (40 + (mvF g).toNat)) = g := by
  funext j
  unfold ug
  by_cases h1 : j = 40 + (mvF g).toNat
  · rw [if_pos h1, h1]
  · rw [if_neg h1]
    by_cases h2 : j = 1
    · rw [if_pos h2, h2]
    · rw [if_neg h2]
      by_cases h3 : j = 2
      · rw [if_pos h3, h3]
      · rw [if_neg h3, ttF_o h2 h3 h1]
