/-! what is changed; the pictures of the class and of the model between the calls -/
theorem gI_ok {w : ai_H} {a n : Nat} {j : Int} (h : mS w a = (2, n)) (ha : a < 1000000) (j0 : 0 ≤ j) (j1 : j < n) (j2 : j < 2147483648) : gI w a (jI j) ↔ True := iff_true_intro ((gI_iff h ha).mpr ((jl_ib (by omega) j2).mpr ⟨j0, j1⟩))
theorem gJ_ok {w : ai_H} {a n : Nat} {j : Int} (h : mS w a = (2, n)) (j0 : 0 ≤ j) (j1 : j < n) (j2 : j < 2147483648) : gJ w a (jI j) ↔ True := iff_true_intro ((gJ_iff h).mpr ((jl_ib (by omega) j2).mpr ⟨j0, j1⟩))
theorem gZ_ok {w : ai_H} {a n : Nat} {j : Int} (h : mS w a = (3, n)) (j0 : 0 ≤ j) (j1 : j < n) (j2 : j < 2147483648) : gZ w a (jI j) ↔ True := iff_true_intro ((gZ_iff h).mpr ((jl_ib (by omega) j2).mpr ⟨j0, j1⟩))
theorem gS_ok {w : ai_H} {a n : Nat} {j : Int} (h : mS w a = (5, n)) (j0 : 0 ≤ j) (j1 : j < n) (j2 : j < 2147483648) : gP w a (jI j) ↔ True := iff_true_intro (by
  unfold gP
  rw [h]
  exact ⟨Or.inr rfl, (jl_ib (by omega) j2).mpr ⟨j0, j1⟩⟩)
theorem gP_ok {w : ai_H} {a n : Nat} {j : Int} (h : mS w a = (4, n)) (j0 : 0 ≤ j) (j1 : j < n) (j2 : j < 2147483648) : gP w a (jI j) ↔ True := iff_true_intro ((gP_iff h).mpr ((jl_ib (by omega) j2).mpr ⟨j0, j1⟩))
def Ch (X : Nat → Nat → Prop) (w w' : ai_H) : Prop := w'.2 = w.2 ∧ ∀ i k, ¬ X i k → mI w' i k = mI w i k
theorem Ch.refl {X : Nat → Nat → Prop} (w : ai_H) : Ch X w w := ⟨rfl, fun _ _ _ => rfl⟩
theorem Ch.trans {X : Nat → Nat → Prop} {a b c : ai_H} (h1 : Ch X a b) (h2 : Ch X b c) : Ch X a c := ⟨h2.1.trans h1.1, fun i k h => (h2.2 i k h).trans (h1.2 i k h)⟩
theorem Ch.mono {X Y : Nat → Nat → Prop} {w w' : ai_H} (h : Ch X w w') (hx : ∀ i k, X i k → Y i k) : Ch Y w w' := ⟨h.1, fun i k hn => h.2 i k (fun z => hn (hx i k z))⟩
theorem Ch.ms {X : Nat → Nat → Prop} {w w' : ai_H} (h : Ch X w w') {i k : Nat} {v : Int32} (hx : X i k) : Ch X w (msI w' i k v) := ⟨h.1, fun a b hn => by
  rw [mI_msI, if_neg (fun z => hn (by rw [z.1, z.2]; exact hx))]
  exact h.2 a b hn⟩
theorem Ch.ma {X : Nat → Nat → Prop} {w w' : ai_H} (h : Ch X w w') {i : Nat} {f : Nat → Int32} (hx : ∀ k, X i k) : Ch X w (msA w' i f) := ⟨h.1, fun a b hn => by
  rw [mI_msA, if_neg (fun z => hn (by rw [z]; exact hx b))]
  exact h.2 a b hn⟩
theorem Ch.s {X : Nat → Nat → Prop} {w w' : ai_H} (h : Ch X w w') (i : Nat) : mS w' i = mS w i := by
  unfold mS
  rw [h.1]
theorem Ch.p {X : Nat → Nat → Prop} {w w' : ai_H} (h : Ch X w w') (i k : Nat) : mP w' i k = mP w i k := by
  unfold mP
  rw [h.1]
theorem Ch.n {X : Nat → Nat → Prop} {w w' : ai_H} (h : Ch X w w') : mN w' = mN w := by
  unfold mN
  rw [h.1]
theorem Ch.i {X : Nat → Nat → Prop} {w w' : ai_H} (h : Ch X w w') {i k : Nat} (hn : ¬ X i k) : mI w' i k = mI w i k := h.2 i k hn
theorem Ch.v {X : Nat → Nat → Prop} {w w' : ai_H} (h : Ch X w w') {i k : Nat} (hn : ¬ X i k) : vI w' i k = vI w i k := by
  unfold vI
  rw [h.2 i k hn]
def xA (i k : Nat) : Prop := (i = 0 ∧ (k = 8 ∨ k = 9)) ∨ (i = 1 ∧ 2 ≤ k) ∨ i = 3 ∨ i = 4 ∨ (i = 5 ∧ 3 ≤ k) ∨ i = 7 ∨ (14 ≤ i ∧ i ≤ 19) ∨ i = 34 ∨ i = 35 ∨ i = 63 ∨ i = 64
def xM (i k : Nat) : Prop := (i = 5 ∧ 3 ≤ k) ∨ i = 7 ∨ (i = 47 ∧ ((28 ≤ k ∧ k ≤ 31) ∨ (33 ≤ k ∧ k ≤ 36) ∨ 39 ≤ k)) ∨ (62 ≤ i ∧ i ≤ 65)
def yA (i k : Nat) : Prop := xA i k ∨ (47 ≤ i ∧ i ≤ 65)
def FA (w w' : ai_H) : Prop := ∀ i, 47 ≤ i → i ≤ 65 → mS w' i = mS w i ∧ ∀ k, mP w' i k = mP w i k ∧ (¬ xM i k → mI w' i k = mI w i k)
theorem FA.of {Y : Nat → Nat → Prop} {w w' : ai_H} (h : Ch Y w w') (hy : ∀ i k, Y i k → 47 ≤ i → i ≤ 65 → xM i k) : FA w w' := fun i h1 h2 => ⟨h.s i, fun k => ⟨h.p i k, fun hn => h.i (fun z => hn (hy i k z h1 h2))⟩⟩
theorem FA.trans {a b c : ai_H} (h1 : FA a b) (h2 : FA b c) : FA a c := fun i h3 h4 => ⟨(h2 i h3 h4).1.trans (h1 i h3 h4).1, fun k => ⟨((h2 i h3 h4).2 k).1.trans ((h1 i h3 h4).2 k).1, fun hn => (((h2 i h3 h4).2 k).2 hn).trans (((h1 i h3 h4).2 k).2 hn)⟩⟩
theorem FA.xa {w w' : ai_H} (h : Ch xA w w') : FA w w' := FA.of h (fun i k hx h1 h2 => by unfold xA at hx; unfold xM; omega)
theorem FA.xm {w w' : ai_H} (h : Ch xM w w') : FA w w' := FA.of h (fun i k hx h1 h2 => hx)
theorem Sx.ca {w w' : ai_H} (h : Sx w w') : Ch xA w w' := ⟨h.1, fun i k hn => h.2 i k (by unfold xA at hn; unfold nS; omega)⟩
theorem Sx.cm {w w' : ai_H} (h : Sx w w') : Ch xM w w' := ⟨h.1, fun i k hn => h.2 i k (by unfold xM at hn; unfold nS; omega)⟩
theorem Ch.ay {w w' : ai_H} (h : Ch xA w w') : Ch yA w w' := h.mono (fun i k z => Or.inl z)
theorem Ch.my {w w' : ai_H} (h : Ch xM w w') : Ch yA w w' := h.mono (fun i k z => by unfold xM at z; unfold yA xA; omega)
/-! the texts lie apart -/
def okc (x : Nat) : Prop := (44 ≤ x ∧ x < 47) ∨ (66 ≤ x ∧ x < 1000000)
def TXo (w : ai_H) (nt : Int) : Prop := ∀ t : Nat, (t : Int) < nt → ∀ a, mP w 6 t = some a → okc a ∧ (∀ s, mP w a 0 = some s → okc s) ∧ (∀ s, mP w a 1 = some s → okc s)
theorem TX.ch {X : Nat → Nat → Prop} {w w' : ai_H} {nt : Int} {T : Nat → Nat → List Int} (h : TX w nt T) (ho : TXo w nt) (hx : Ch X w w') (hX : ∀ i k, X i k → ¬ okc i ∧ ¬ (i = 5 ∧ k = 1)) : TX w' nt T := by
  obtain ⟨⟨l1, l2, l3, l4, l5, l6, l7⟩, h2⟩ := h
  refine ⟨⟨?_, ?_, ?_, ?_, ?_, ?_, l7⟩, ?_⟩
  · rw [hx.s]; exact l1
  · rw [hx.p]; exact l2
  · rw [hx.p]; exact l3
  · rw [hx.s]; exact l4
  · rw [hx.s]; exact l5
  · rw [hx.v (fun z => (hX _ _ z).2 ⟨rfl, rfl⟩)]; exact l6
  · intro t ht
    obtain ⟨a, s, st, n, q1, q2, q3, q4, q5, q6, q7, q8⟩ := h2 t ht
    obtain ⟨o1, o2, o3⟩ := ho t ht a q1
    have ns : ∀ k, ¬ X s k := fun k z => (hX _ _ z).1 (o2 s q3)
    have nt : ∀ k, ¬ X st k := fun k z => (hX _ _ z).1 (o3 st q4)
    refine ⟨a, s, st, n, ?_, ?_, ?_, ?_, ?_, ?_, q7, ?_⟩
    · rw [hx.p]; exact q1
    · rw [hx.s]; exact q2
    · rw [hx.p]; exact q3
    · rw [hx.p]; exact q4
    · rw [hx.s]; exact q5
    · rw [hx.s]; exact q6
    · intro p hp
      have := q8 p hp
      unfold TXs at this ⊢
      simp only [hx.v (nt _), hx.v (ns _)]
      exact this
theorem TXo.ch {X : Nat → Nat → Prop} {w w' : ai_H} {nt : Int} (h : TXo w nt) (hx : Ch X w w') : TXo w' nt := by
  intro t ht a ha
  rw [hx.p] at ha
  have := h t ht a ha
  simp only [hx.p]
  exact this
/-! the class's shape -/
def AG (w : ai_H) : Prop := (mS w 0 = (1, 6)) ∧ (mP w 0 0 = some 1) ∧ (mP w 0 1 = some 5) ∧ (mP w 0 2 = some 8) ∧ (mP w 0 3 = some 14) ∧ (mP w 0 4 = some 20) ∧ (mP w 0 6 = some 26) ∧ (mP w 0 7 = some 33) ∧ (mP w 0 10 = some 34) ∧ (mP w 0 11 = some 35) ∧ (mS w 1 = (1, 3)) ∧ (mP w 1 0 = some 2) ∧ (mP w 1 6 = some 3) ∧ (mP w 1 8 = some 4) ∧ (mS w 2 = (2, 160)) ∧ (mS w 3 = (2, 160)) ∧ (mS w 4 = (2, 3)) ∧ (mS w 26 = (1, 1)) ∧ (mP w 26 0 = some 27) ∧ (mP w 26 1 = some 28) ∧ (mP w 26 2 = some 29) ∧ (mP w 26 3 = some 30) ∧ (mP w 26 4 = some 31) ∧ (mP w 26 5 = some 32) ∧ (mS w 27 = (2, 60)) ∧ (mS w 28 = (2, 60)) ∧ (mS w 29 = (2, 60)) ∧ (mS w 30 = (2, 60)) ∧ (mS w 31 = (2, 60)) ∧ (mS w 32 = (3, 60)) ∧ (mS w 33 = (5, 4)) ∧ (mS w 34 = (2, 19)) ∧ (mS w 35 = (2, 19)) ∧ (mS w 8 = (1, 2)) ∧ (mP w 8 0 = some 5) ∧ (mP w 8 7 = some 9) ∧ (mP w 8 8 = some 10) ∧ (mP w 8 9 = some 11) ∧ (mP w 8 10 = some 12) ∧ (mP w 8 11 = some 13) ∧ (mS w 9 = (2, 5)) ∧ (mS w 10 = (2, 5)) ∧ (mS w 11 = (2, 5)) ∧ (mS w 12 = (2, 5)) ∧ (mS w 13 = (3, 5)) ∧ (mS w 14 = (1, 2)) ∧ (mP w 14 0 = some 5) ∧ (mP w 14 7 = some 15) ∧ (mP w 14 8 = some 16) ∧ (mP w 14 9 = some 17) ∧ (mP w 14 10 = some 18) ∧ (mP w 14 11 = some 19) ∧ (mS w 15 = (2, 5)) ∧ (mS w 16 = (2, 5)) ∧ (mS w 17 = (2, 5)) ∧ (mS w 18 = (2, 5)) ∧ (mS w 19 = (3, 5)) ∧ (mS w 20 = (1, 2)) ∧ (mP w 20 0 = some 5) ∧ (mP w 20 7 = some 21) ∧ (mP w 20 8 = some 22) ∧ (mP w 20 9 = some 23) ∧ (mP w 20 10 = some 24) ∧ (mP w 20 11 = some 25) ∧ (mS w 21 = (2, 5)) ∧ (mS w 22 = (2, 5)) ∧ (mS w 23 = (2, 5)) ∧ (mS w 24 = (2, 5)) ∧ (mS w 25 = (3, 5)) ∧ (∀ s : Nat, s < 4 → mP w 33 s = some (36 + 2 * s) ∧ mS w (36 + 2 * s) = (1, 4) ∧ mP w (36 + 2 * s) 2 = some (37 + 2 * s) ∧ mS w (37 + 2 * s) = (2, 40))
theorem AG.s0 {w : ai_H} (hS_ : AG w) : mS w 0 = (1, 6) := hS_.1
theorem AG.p0 {w : ai_H} (hS_ : AG w) : mP w 0 0 = some 1 := hS_.2.1
theorem AG.p1 {w : ai_H} (hS_ : AG w) : mP w 0 1 = some 5 := hS_.2.2.1
theorem AG.p2 {w : ai_H} (hS_ : AG w) : mP w 0 2 = some 8 := hS_.2.2.2.1
theorem AG.p3 {w : ai_H} (hS_ : AG w) : mP w 0 3 = some 14 := hS_.2.2.2.2.1
theorem AG.p4 {w : ai_H} (hS_ : AG w) : mP w 0 4 = some 20 := hS_.2.2.2.2.2.1
theorem AG.p6 {w : ai_H} (hS_ : AG w) : mP w 0 6 = some 26 := hS_.2.2.2.2.2.2.1
theorem AG.p7 {w : ai_H} (hS_ : AG w) : mP w 0 7 = some 33 := hS_.2.2.2.2.2.2.2.1
theorem AG.p10 {w : ai_H} (hS_ : AG w) : mP w 0 10 = some 34 := hS_.2.2.2.2.2.2.2.2.1
theorem AG.p11 {w : ai_H} (hS_ : AG w) : mP w 0 11 = some 35 := hS_.2.2.2.2.2.2.2.2.2.1
theorem AG.s1 {w : ai_H} (hS_ : AG w) : mS w 1 = (1, 3) := hS_.2.2.2.2.2.2.2.2.2.2.1
theorem AG.p1_0 {w : ai_H} (hS_ : AG w) : mP w 1 0 = some 2 := hS_.2.2.2.2.2.2.2.2.2.2.2.1
theorem AG.p1_6 {w : ai_H} (hS_ : AG w) : mP w 1 6 = some 3 := hS_.2.2.2.2.2.2.2.2.2.2.2.2.1
theorem AG.p1_8 {w : ai_H} (hS_ : AG w) : mP w 1 8 = some 4 := hS_.2.2.2.2.2.2.2.2.2.2.2.2.2.1
theorem AG.a2 {w : ai_H} (hS_ : AG w) : mS w 2 = (2, 160) := hS_.2.2.2.2.2.2.2.2.2.2.2.2.2.2.1
theorem AG.a3 {w : ai_H} (hS_ : AG w) : mS w 3 = (2, 160) := hS_.2.2.2.2.2.2.2.2.2.2.2.2.2.2.2.1
theorem AG.a4 {w : ai_H} (hS_ : AG w) : mS w 4 = (2, 3) := hS_.2.2.2.2.2.2.2.2.2.2.2.2.2.2.2.2.1
theorem AG.s26 {w : ai_H} (hS_ : AG w) : mS w 26 = (1, 1) := hS_.2.2.2.2.2.2.2.2.2.2.2.2.2.2.2.2.2.1
theorem AG.p26_0 {w : ai_H} (hS_ : AG w) : mP w 26 0 = some 27 := hS_.2.2.2.2.2.2.2.2.2.2.2.2.2.2.2.2.2.2.1
theorem AG.p26_1 {w : ai_H} (hS_ : AG w) : mP w 26 1 = some 28 := hS_.2.2.2.2.2.2.2.2.2.2.2.2.2.2.2.2.2.2.2.1
theorem AG.p26_2 {w : ai_H} (hS_ : AG w) : mP w 26 2 = some 29 := hS_.2.2.2.2.2.2.2.2.2.2.2.2.2.2.2.2.2.2.2.2.1
theorem AG.p26_3 {w : ai_H} (hS_ : AG w) : mP w 26 3 = some 30 := hS_.2.2.2.2.2.2.2.2.2.2.2.2.2.2.2.2.2.2.2.2.2.1
theorem AG.p26_4 {w : ai_H} (hS_ : AG w) : mP w 26 4 = some 31 := hS_.2.2.2.2.2.2.2.2.2.2.2.2.2.2.2.2.2.2.2.2.2.2.1
theorem AG.p26_5 {w : ai_H} (hS_ : AG w) : mP w 26 5 = some 32 := hS_.2.2.2.2.2.2.2.2.2.2.2.2.2.2.2.2.2.2.2.2.2.2.2.1
theorem AG.a27 {w : ai_H} (hS_ : AG w) : mS w 27 = (2, 60) := hS_.2.2.2.2.2.2.2.2.2.2.2.2.2.2.2.2.2.2.2.2.2.2.2.2.1
theorem AG.a28 {w : ai_H} (hS_ : AG w) : mS w 28 = (2, 60) := hS_.2.2.2.2.2.2.2.2.2.2.2.2.2.2.2.2.2.2.2.2.2.2.2.2.2.1
theorem AG.a29 {w : ai_H} (hS_ : AG w) : mS w 29 = (2, 60) := hS_.2.2.2.2.2.2.2.2.2.2.2.2.2.2.2.2.2.2.2.2.2.2.2.2.2.2.1
theorem AG.a30 {w : ai_H} (hS_ : AG w) : mS w 30 = (2, 60) := hS_.2.2.2.2.2.2.2.2.2.2.2.2.2.2.2.2.2.2.2.2.2.2.2.2.2.2.2.1
theorem AG.a31 {w : ai_H} (hS_ : AG w) : mS w 31 = (2, 60) := hS_.2.2.2.2.2.2.2.2.2.2.2.2.2.2.2.2.2.2.2.2.2.2.2.2.2.2.2.2.1
theorem AG.z32 {w : ai_H} (hS_ : AG w) : mS w 32 = (3, 60) := hS_.2.2.2.2.2.2.2.2.2.2.2.2.2.2.2.2.2.2.2.2.2.2.2.2.2.2.2.2.2.1
theorem AG.s33 {w : ai_H} (hS_ : AG w) : mS w 33 = (5, 4) := hS_.2.2.2.2.2.2.2.2.2.2.2.2.2.2.2.2.2.2.2.2.2.2.2.2.2.2.2.2.2.2.1
theorem AG.a34 {w : ai_H} (hS_ : AG w) : mS w 34 = (2, 19) := hS_.2.2.2.2.2.2.2.2.2.2.2.2.2.2.2.2.2.2.2.2.2.2.2.2.2.2.2.2.2.2.2.1
theorem AG.a35 {w : ai_H} (hS_ : AG w) : mS w 35 = (2, 19) := hS_.2.2.2.2.2.2.2.2.2.2.2.2.2.2.2.2.2.2.2.2.2.2.2.2.2.2.2.2.2.2.2.2.1
theorem AG.s8 {w : ai_H} (hS_ : AG w) : mS w 8 = (1, 2) := hS_.2.2.2.2.2.2.2.2.2.2.2.2.2.2.2.2.2.2.2.2.2.2.2.2.2.2.2.2.2.2.2.2.2.1
theorem AG.p8_0 {w : ai_H} (hS_ : AG w) : mP w 8 0 = some 5 := hS_.2.2.2.2.2.2.2.2.2.2.2.2.2.2.2.2.2.2.2.2.2.2.2.2.2.2.2.2.2.2.2.2.2.2.1
theorem AG.p8_7 {w : ai_H} (hS_ : AG w) : mP w 8 7 = some 9 := hS_.2.2.2.2.2.2.2.2.2.2.2.2.2.2.2.2.2.2.2.2.2.2.2.2.2.2.2.2.2.2.2.2.2.2.2.1
theorem AG.p8_8 {w : ai_H} (hS_ : AG w) : mP w 8 8 = some 10 := hS_.2.2.2.2.2.2.2.2.2.2.2.2.2.2.2.2.2.2.2.2.2.2.2.2.2.2.2.2.2.2.2.2.2.2.2.2.1
theorem AG.p8_9 {w : ai_H} (hS_ : AG w) : mP w 8 9 = some 11 := hS_.2.2.2.2.2.2.2.2.2.2.2.2.2.2.2.2.2.2.2.2.2.2.2.2.2.2.2.2.2.2.2.2.2.2.2.2.2.1
theorem AG.p8_10 {w : ai_H} (hS_ : AG w) : mP w 8 10 = some 12 := hS_.2.2.2.2.2.2.2.2.2.2.2.2.2.2.2.2.2.2.2.2.2.2.2.2.2.2.2.2.2.2.2.2.2.2.2.2.2.2.1
theorem AG.p8_11 {w : ai_H} (hS_ : AG w) : mP w 8 11 = some 13 := hS_.2.2.2.2.2.2.2.2.2.2.2.2.2.2.2.2.2.2.2.2.2.2.2.2.2.2.2.2.2.2.2.2.2.2.2.2.2.2.2.1
theorem AG.a9 {w : ai_H} (hS_ : AG w) : mS w 9 = (2, 5) := hS_.2.2.2.2.2.2.2.2.2.2.2.2.2.2.2.2.2.2.2.2.2.2.2.2.2.2.2.2.2.2.2.2.2.2.2.2.2.2.2.2.1
theorem AG.a10 {w : ai_H} (hS_ : AG w) : mS w 10 = (2, 5) := hS_.2.2.2.2.2.2.2.2.2.2.2.2.2.2.2.2.2.2.2.2.2.2.2.2.2.2.2.2.2.2.2.2.2.2.2.2.2.2.2.2.2.1
theorem AG.a11 {w : ai_H} (hS_ : AG w) : mS w 11 = (2, 5) := hS_.2.2.2.2.2.2.2.2.2.2.2.2.2.2.2.2.2.2.2.2.2.2.2.2.2.2.2.2.2.2.2.2.2.2.2.2.2.2.2.2.2.2.1
theorem AG.a12 {w : ai_H} (hS_ : AG w) : mS w 12 = (2, 5) := hS_.2.2.2.2.2.2.2.2.2.2.2.2.2.2.2.2.2.2.2.2.2.2.2.2.2.2.2.2.2.2.2.2.2.2.2.2.2.2.2.2.2.2.2.1
theorem AG.z13 {w : ai_H} (hS_ : AG w) : mS w 13 = (3, 5) := hS_.2.2.2.2.2.2.2.2.2.2.2.2.2.2.2.2.2.2.2.2.2.2.2.2.2.2.2.2.2.2.2.2.2.2.2.2.2.2.2.2.2.2.2.2.1
theorem AG.s14 {w : ai_H} (hS_ : AG w) : mS w 14 = (1, 2) := hS_.2.2.2.2.2.2.2.2.2.2.2.2.2.2.2.2.2.2.2.2.2.2.2.2.2.2.2.2.2.2.2.2.2.2.2.2.2.2.2.2.2.2.2.2.2.1
theorem AG.p14_0 {w : ai_H} (hS_ : AG w) : mP w 14 0 = some 5 := hS_.2.2.2.2.2.2.2.2.2.2.2.2.2.2.2.2.2.2.2.2.2.2.2.2.2.2.2.2.2.2.2.2.2.2.2.2.2.2.2.2.2.2.2.2.2.2.1
theorem AG.p14_7 {w : ai_H} (hS_ : AG w) : mP w 14 7 = some 15 := hS_.2.2.2.2.2.2.2.2.2.2.2.2.2.2.2.2.2.2.2.2.2.2.2.2.2.2.2.2.2.2.2.2.2.2.2.2.2.2.2.2.2.2.2.2.2.2.2.1
theorem AG.p14_8 {w : ai_H} (hS_ : AG w) : mP w 14 8 = some 16 := hS_.2.2.2.2.2.2.2.2.2.2.2.2.2.2.2.2.2.2.2.2.2.2.2.2.2.2.2.2.2.2.2.2.2.2.2.2.2.2.2.2.2.2.2.2.2.2.2.2.1
theorem AG.p14_9 {w : ai_H} (hS_ : AG w) : mP w 14 9 = some 17 := hS_.2.2.2.2.2.2.2.2.2.2.2.2.2.2.2.2.2.2.2.2.2.2.2.2.2.2.2.2.2.2.2.2.2.2.2.2.2.2.2.2.2.2.2.2.2.2.2.2.2.1
theorem AG.p14_10 {w : ai_H} (hS_ : AG w) : mP w 14 10 = some 18 := hS_.2.2.2.2.2.2.2.2.2.2.2.2.2.2.2.2.2.2.2.2.2.2.2.2.2.2.2.2.2.2.2.2.2.2.2.2.2.2.2.2.2.2.2.2.2.2.2.2.2.2.1
theorem AG.p14_11 {w : ai_H} (hS_ : AG w) : mP w 14 11 = some 19 := hS_.2.2.2.2.2.2.2.2.2.2.2.2.2.2.2.2.2.2.2.2.2.2.2.2.2.2.2.2.2.2.2.2.2.2.2.2.2.2.2.2.2.2.2.2.2.2.2.2.2.2.2.1
theorem AG.a15 {w : ai_H} (hS_ : AG w) : mS w 15 = (2, 5) := hS_.2.2.2.2.2.2.2.2.2.2.2.2.2.2.2.2.2.2.2.2.2.2.2.2.2.2.2.2.2.2.2.2.2.2.2.2.2.2.2.2.2.2.2.2.2.2.2.2.2.2.2.2.1
theorem AG.a16 {w : ai_H} (hS_ : AG w) : mS w 16 = (2, 5) := hS_.2.2.2.2.2.2.2.2.2.2.2.2.2.2.2.2.2.2.2.2.2.2.2.2.2.2.2.2.2.2.2.2.2.2.2.2.2.2.2.2.2.2.2.2.2.2.2.2.2.2.2.2.2.1
theorem AG.a17 {w : ai_H} (hS_ : AG w) : mS w 17 = (2, 5) := hS_.2.2.2.2.2.2.2.2.2.2.2.2.2.2.2.2.2.2.2.2.2.2.2.2.2.2.2.2.2.2.2.2.2.2.2.2.2.2.2.2.2.2.2.2.2.2.2.2.2.2.2.2.2.2.1
theorem AG.a18 {w : ai_H} (hS_ : AG w) : mS w 18 = (2, 5) := hS_.2.2.2.2.2.2.2.2.2.2.2.2.2.2.2.2.2.2.2.2.2.2.2.2.2.2.2.2.2.2.2.2.2.2.2.2.2.2.2.2.2.2.2.2.2.2.2.2.2.2.2.2.2.2.2.1
theorem AG.z19 {w : ai_H} (hS_ : AG w) : mS w 19 = (3, 5) := hS_.2.2.2.2.2.2.2.2.2.2.2.2.2.2.2.2.2.2.2.2.2.2.2.2.2.2.2.2.2.2.2.2.2.2.2.2.2.2.2.2.2.2.2.2.2.2.2.2.2.2.2.2.2.2.2.2.1
theorem AG.s20 {w : ai_H} (hS_ : AG w) : mS w 20 = (1, 2) := hS_.2.2.2.2.2.2.2.2.2.2.2.2.2.2.2.2.2.2.2.2.2.2.2.2.2.2.2.2.2.2.2.2.2.2.2.2.2.2.2.2.2.2.2.2.2.2.2.2.2.2.2.2.2.2.2.2.2.1
theorem AG.p20_0 {w : ai_H} (hS_ : AG w) : mP w 20 0 = some 5 := hS_.2.2.2.2.2.2.2.2.2.2.2.2.2.2.2.2.2.2.2.2.2.2.2.2.2.2.2.2.2.2.2.2.2.2.2.2.2.2.2.2.2.2.2.2.2.2.2.2.2.2.2.2.2.2.2.2.2.2.1
theorem AG.p20_7 {w : ai_H} (hS_ : AG w) : mP w 20 7 = some 21 := hS_.2.2.2.2.2.2.2.2.2.2.2.2.2.2.2.2.2.2.2.2.2.2.2.2.2.2.2.2.2.2.2.2.2.2.2.2.2.2.2.2.2.2.2.2.2.2.2.2.2.2.2.2.2.2.2.2.2.2.2.1
theorem AG.p20_8 {w : ai_H} (hS_ : AG w) : mP w 20 8 = some 22 := hS_.2.2.2.2.2.2.2.2.2.2.2.2.2.2.2.2.2.2.2.2.2.2.2.2.2.2.2.2.2.2.2.2.2.2.2.2.2.2.2.2.2.2.2.2.2.2.2.2.2.2.2.2.2.2.2.2.2.2.2.2.1
theorem AG.p20_9 {w : ai_H} (hS_ : AG w) : mP w 20 9 = some 23 := hS_.2.2.2.2.2.2.2.2.2.2.2.2.2.2.2.2.2.2.2.2.2.2.2.2.2.2.2.2.2.2.2.2.2.2.2.2.2.2.2.2.2.2.2.2.2.2.2.2.2.2.2.2.2.2.2.2.2.2.2.2.2.1
theorem AG.p20_10 {w : ai_H} (hS_ : AG w) : mP w 20 10 = some 24 := hS_.2.2.2.2.2.2.2.2.2.2.2.2.2.2.2.2.2.2.2.2.2.2.2.2.2.2.2.2.2.2.2.2.2.2.2.2.2.2.2.2.2.2.2.2.2.2.2.2.2.2.2.2.2.2.2.2.2.2.2.2.2.2.1
theorem AG.p20_11 {w : ai_H} (hS_ : AG w) : mP w 20 11 = some 25 := hS_.2.2.2.2.2.2.2.2.2.2.2.2.2.2.2.2.2.2.2.2.2.2.2.2.2.2.2.2.2.2.2.2.2.2.2.2.2.2.2.2.2.2.2.2.2.2.2.2.2.2.2.2.2.2.2.2.2.2.2.2.2.2.2.1
theorem AG.a21 {w : ai_H} (hS_ : AG w) : mS w 21 = (2, 5) := hS_.2.2.2.2.2.2.2.2.2.2.2.2.2.2.2.2.2.2.2.2.2.2.2.2.2.2.2.2.2.2.2.2.2.2.2.2.2.2.2.2.2.2.2.2.2.2.2.2.2.2.2.2.2.2.2.2.2.2.2.2.2.2.2.2.1
theorem AG.a22 {w : ai_H} (hS_ : AG w) : mS w 22 = (2, 5) := hS_.2.2.2.2.2.2.2.2.2.2.2.2.2.2.2.2.2.2.2.2.2.2.2.2.2.2.2.2.2.2.2.2.2.2.2.2.2.2.2.2.2.2.2.2.2.2.2.2.2.2.2.2.2.2.2.2.2.2.2.2.2.2.2.2.2.1
theorem AG.a23 {w : ai_H} (hS_ : AG w) : mS w 23 = (2, 5) := hS_.2.2.2.2.2.2.2.2.2.2.2.2.2.2.2.2.2.2.2.2.2.2.2.2.2.2.2.2.2.2.2.2.2.2.2.2.2.2.2.2.2.2.2.2.2.2.2.2.2.2.2.2.2.2.2.2.2.2.2.2.2.2.2.2.2.2.1
theorem AG.a24 {w : ai_H} (hS_ : AG w) : mS w 24 = (2, 5) := hS_.2.2.2.2.2.2.2.2.2.2.2.2.2.2.2.2.2.2.2.2.2.2.2.2.2.2.2.2.2.2.2.2.2.2.2.2.2.2.2.2.2.2.2.2.2.2.2.2.2.2.2.2.2.2.2.2.2.2.2.2.2.2.2.2.2.2.2.1
theorem AG.z25 {w : ai_H} (hS_ : AG w) : mS w 25 = (3, 5) := hS_.2.2.2.2.2.2.2.2.2.2.2.2.2.2.2.2.2.2.2.2.2.2.2.2.2.2.2.2.2.2.2.2.2.2.2.2.2.2.2.2.2.2.2.2.2.2.2.2.2.2.2.2.2.2.2.2.2.2.2.2.2.2.2.2.2.2.2.2.1
theorem AG._sh {w : ai_H} (hS_ : AG w) : ∀ s : Nat, s < 4 → mP w 33 s = some (36 + 2 * s) ∧ mS w (36 + 2 * s) = (1, 4) ∧ mP w (36 + 2 * s) 2 = some (37 + 2 * s) ∧ mS w (37 + 2 * s) = (2, 40) := hS_.2.2.2.2.2.2.2.2.2.2.2.2.2.2.2.2.2.2.2.2.2.2.2.2.2.2.2.2.2.2.2.2.2.2.2.2.2.2.2.2.2.2.2.2.2.2.2.2.2.2.2.2.2.2.2.2.2.2.2.2.2.2.2.2.2.2.2.2.2
theorem AG.n {w : ai_H} (h : AG w) : PG w 8 := ⟨h.s8, h.p8_0, h.p8_7, h.p8_8, h.p8_9, h.p8_10, h.p8_11, h.a9, h.a10, h.a11, h.a12, h.z13, by decide, by decide⟩
theorem AG.t {w : ai_H} (h : AG w) : PG w 14 := ⟨h.s14, h.p14_0, h.p14_7, h.p14_8, h.p14_9, h.p14_10, h.p14_11, h.a15, h.a16, h.a17, h.a18, h.z19, by decide, by decide⟩
theorem AG.k {w : ai_H} (h : AG w) : PG w 20 := ⟨h.s20, h.p20_0, h.p20_7, h.p20_8, h.p20_9, h.p20_10, h.p20_11, h.a21, h.a22, h.a23, h.a24, h.z25, by decide, by decide⟩
theorem AG.sp {w : ai_H} (h : AG w) {s : Nat} (hs : s < 4) : mP w 33 s = some (36 + 2 * s) := (h._sh s hs).1
theorem AG.ss {w : ai_H} (h : AG w) {s : Nat} (hs : s < 4) : mS w (36 + 2 * s) = (1, 4) := (h._sh s hs).2.1
theorem AG.sn {w : ai_H} (h : AG w) {s : Nat} (hs : s < 4) : mP w (36 + 2 * s) 2 = some (37 + 2 * s) := (h._sh s hs).2.2.1
theorem AG.sa {w : ai_H} (h : AG w) {s : Nat} (hs : s < 4) : mS w (37 + 2 * s) = (2, 40) := (h._sh s hs).2.2.2
theorem AG.bI {w : ai_H} (h : AG w) {s : Nat} (hs : s < 4) {j : Int} (j0 : 0 ≤ j) (j1 : j < 40) : gI w (37 + 2 * s) (jI j) ↔ True := gI_ok (h.sa hs) (by omega) j0 j1 (by omega)
theorem AG.bJ {w : ai_H} (h : AG w) {s : Nat} (hs : s < 4) {j : Int} (j0 : 0 ≤ j) (j1 : j < 40) : gJ w (37 + 2 * s) (jI j) ↔ True := gJ_ok (h.sa hs) j0 j1 (by omega)
theorem AG.eq2 {w w' : ai_H} (h : AG w) (he : w'.2 = w.2) : AG w' := by
  unfold AG mS mP at h ⊢
  rw [he]
  exact h
/-! the class's picture -/
def AI (w : ai_H) (g : Nat → Int) (h : Nat → Int) (im : Int) (mv : Nat → Nat → Int) (S : Nat → Nat → Int) (tn : Int) (tp : Nat → Int) (nt : Int) (T : Nat → Nat → List Int) : Prop := (AG w) ∧ (PO w 8 g) ∧ (mI w 8 4 = jI (g 5)) ∧ (∀ e : Nat, (e : Int) < g 3 → mI w 13 e = jI (g (50 + e))) ∧ (mI w 0 5 = jI im) ∧ (im = 1 → PO w 20 h) ∧ (im = 1 → mI w 20 4 = jI (h 5)) ∧ (im = 1 → ∀ e : Nat, (e : Int) < h 3 → mI w 25 e = jI (h (50 + e))) ∧ (∀ k : Nat, (k : Int) < g 5 → mI w 27 k = jI (mv k 0)) ∧ (∀ k : Nat, (k : Int) < g 5 → mI w 28 k = jI (mv k 1)) ∧ (∀ k : Nat, (k : Int) < g 5 → mI w 29 k = jI (mv k 2)) ∧ (∀ k : Nat, (k : Int) < g 5 → mI w 30 k = jI (mv k 3)) ∧ (∀ k : Nat, (k : Int) < g 5 → mI w 32 k = jI (mv k 4)) ∧ (∀ k : Nat, (k : Int) < g 5 → mI w 31 k = jI (mv k 5)) ∧ (∀ s : Nat, s < 4 → mI w (36 + 2 * s) 0 = jI (S s 100)) ∧ (∀ s : Nat, s < 4 → mI w (36 + 2 * s) 1 = jI (S s 101)) ∧ (∀ s i : Nat, s < 4 → i < 40 → mI w (37 + 2 * s) i = jI (S s i)) ∧ (mI w 1 1 = jI tn) ∧ (∀ i : Nat, (i : Int) < tn → mI w 2 i = jI (tp i)) ∧ (TX w nt T) ∧ (TXo w nt) ∧ ((mN w : Int) = 63 + 3 * nt)
theorem AI.ag {w : ai_H} {g : Nat → Int} {h : Nat → Int} {im : Int} {mv : Nat → Nat → Int} {S : Nat → Nat → Int} {tn : Int} {tp : Nat → Int} {nt : Int} {T : Nat → Nat → List Int} (hS_ : AI w g h im mv S tn tp nt T) : AG w := hS_.1
theorem AI.po {w : ai_H} {g : Nat → Int} {h : Nat → Int} {im : Int} {mv : Nat → Nat → Int} {S : Nat → Nat → Int} {tn : Int} {tp : Nat → Int} {nt : Int} {T : Nat → Nat → List Int} (hS_ : AI w g h im mv S tn tp nt T) : PO w 8 g := hS_.2.1
theorem AI.pm {w : ai_H} {g : Nat → Int} {h : Nat → Int} {im : Int} {mv : Nat → Nat → Int} {S : Nat → Nat → Int} {tn : Int} {tp : Nat → Int} {nt : Int} {T : Nat → Nat → List Int} (hS_ : AI w g h im mv S tn tp nt T) : mI w 8 4 = jI (g 5) := hS_.2.2.1
theorem AI.ps {w : ai_H} {g : Nat → Int} {h : Nat → Int} {im : Int} {mv : Nat → Nat → Int} {S : Nat → Nat → Int} {tn : Int} {tp : Nat → Int} {nt : Int} {T : Nat → Nat → List Int} (hS_ : AI w g h im mv S tn tp nt T) : ∀ e : Nat, (e : Int) < g 3 → mI w 13 e = jI (g (50 + e)) := hS_.2.2.2.1
theorem AI.ik {w : ai_H} {g : Nat → Int} {h : Nat → Int} {im : Int} {mv : Nat → Nat → Int} {S : Nat → Nat → Int} {tn : Int} {tp : Nat → Int} {nt : Int} {T : Nat → Nat → List Int} (hS_ : AI w g h im mv S tn tp nt T) : mI w 0 5 = jI im := hS_.2.2.2.2.1
theorem AI.ko {w : ai_H} {g : Nat → Int} {h : Nat → Int} {im : Int} {mv : Nat → Nat → Int} {S : Nat → Nat → Int} {tn : Int} {tp : Nat → Int} {nt : Int} {T : Nat → Nat → List Int} (hS_ : AI w g h im mv S tn tp nt T) : im = 1 → PO w 20 h := hS_.2.2.2.2.2.1
theorem AI.km {w : ai_H} {g : Nat → Int} {h : Nat → Int} {im : Int} {mv : Nat → Nat → Int} {S : Nat → Nat → Int} {tn : Int} {tp : Nat → Int} {nt : Int} {T : Nat → Nat → List Int} (hS_ : AI w g h im mv S tn tp nt T) : im = 1 → mI w 20 4 = jI (h 5) := hS_.2.2.2.2.2.2.1
theorem AI.ks {w : ai_H} {g : Nat → Int} {h : Nat → Int} {im : Int} {mv : Nat → Nat → Int} {S : Nat → Nat → Int} {tn : Int} {tp : Nat → Int} {nt : Int} {T : Nat → Nat → List Int} (hS_ : AI w g h im mv S tn tp nt T) : im = 1 → ∀ e : Nat, (e : Int) < h 3 → mI w 25 e = jI (h (50 + e)) := hS_.2.2.2.2.2.2.2.1
theorem AI.v0 {w : ai_H} {g : Nat → Int} {h : Nat → Int} {im : Int} {mv : Nat → Nat → Int} {S : Nat → Nat → Int} {tn : Int} {tp : Nat → Int} {nt : Int} {T : Nat → Nat → List Int} (hS_ : AI w g h im mv S tn tp nt T) : ∀ k : Nat, (k : Int) < g 5 → mI w 27 k = jI (mv k 0) := hS_.2.2.2.2.2.2.2.2.1
theorem AI.v1 {w : ai_H} {g : Nat → Int} {h : Nat → Int} {im : Int} {mv : Nat → Nat → Int} {S : Nat → Nat → Int} {tn : Int} {tp : Nat → Int} {nt : Int} {T : Nat → Nat → List Int} (hS_ : AI w g h im mv S tn tp nt T) : ∀ k : Nat, (k : Int) < g 5 → mI w 28 k = jI (mv k 1) := hS_.2.2.2.2.2.2.2.2.2.1
theorem AI.v2 {w : ai_H} {g : Nat → Int} {h : Nat → Int} {im : Int} {mv : Nat → Nat → Int} {S : Nat → Nat → Int} {tn : Int} {tp : Nat → Int} {nt : Int} {T : Nat → Nat → List Int} (hS_ : AI w g h im mv S tn tp nt T) : ∀ k : Nat, (k : Int) < g 5 → mI w 29 k = jI (mv k 2) := hS_.2.2.2.2.2.2.2.2.2.2.1
theorem AI.v3 {w : ai_H} {g : Nat → Int} {h : Nat → Int} {im : Int} {mv : Nat → Nat → Int} {S : Nat → Nat → Int} {tn : Int} {tp : Nat → Int} {nt : Int} {T : Nat → Nat → List Int} (hS_ : AI w g h im mv S tn tp nt T) : ∀ k : Nat, (k : Int) < g 5 → mI w 30 k = jI (mv k 3) := hS_.2.2.2.2.2.2.2.2.2.2.2.1
theorem AI.v4 {w : ai_H} {g : Nat → Int} {h : Nat → Int} {im : Int} {mv : Nat → Nat → Int} {S : Nat → Nat → Int} {tn : Int} {tp : Nat → Int} {nt : Int} {T : Nat → Nat → List Int} (hS_ : AI w g h im mv S tn tp nt T) : ∀ k : Nat, (k : Int) < g 5 → mI w 32 k = jI (mv k 4) := hS_.2.2.2.2.2.2.2.2.2.2.2.2.1
theorem AI.v5 {w : ai_H} {g : Nat → Int} {h : Nat → Int} {im : Int} {mv : Nat → Nat → Int} {S : Nat → Nat → Int} {tn : Int} {tp : Nat → Int} {nt : Int} {T : Nat → Nat → List Int} (hS_ : AI w g h im mv S tn tp nt T) : ∀ k : Nat, (k : Int) < g 5 → mI w 31 k = jI (mv k 5) := hS_.2.2.2.2.2.2.2.2.2.2.2.2.2.1
theorem AI.h0 {w : ai_H} {g : Nat → Int} {h : Nat → Int} {im : Int} {mv : Nat → Nat → Int} {S : Nat → Nat → Int} {tn : Int} {tp : Nat → Int} {nt : Int} {T : Nat → Nat → List Int} (hS_ : AI w g h im mv S tn tp nt T) : ∀ s : Nat, s < 4 → mI w (36 + 2 * s) 0 = jI (S s 100) := hS_.2.2.2.2.2.2.2.2.2.2.2.2.2.2.1
theorem AI.h1 {w : ai_H} {g : Nat → Int} {h : Nat → Int} {im : Int} {mv : Nat → Nat → Int} {S : Nat → Nat → Int} {tn : Int} {tp : Nat → Int} {nt : Int} {T : Nat → Nat → List Int} (hS_ : AI w g h im mv S tn tp nt T) : ∀ s : Nat, s < 4 → mI w (36 + 2 * s) 1 = jI (S s 101) := hS_.2.2.2.2.2.2.2.2.2.2.2.2.2.2.2.1
theorem AI.hi {w : ai_H} {g : Nat → Int} {h : Nat → Int} {im : Int} {mv : Nat → Nat → Int} {S : Nat → Nat → Int} {tn : Int} {tp : Nat → Int} {nt : Int} {T : Nat → Nat → List Int} (hS_ : AI w g h im mv S tn tp nt T) : ∀ s i : Nat, s < 4 → i < 40 → mI w (37 + 2 * s) i = jI (S s i) := hS_.2.2.2.2.2.2.2.2.2.2.2.2.2.2.2.2.1
theorem AI.tn {w : ai_H} {g : Nat → Int} {h : Nat → Int} {im : Int} {mv : Nat → Nat → Int} {S : Nat → Nat → Int} {tn : Int} {tp : Nat → Int} {nt : Int} {T : Nat → Nat → List Int} (hS_ : AI w g h im mv S tn tp nt T) : mI w 1 1 = jI tn := hS_.2.2.2.2.2.2.2.2.2.2.2.2.2.2.2.2.2.1
theorem AI.tp {w : ai_H} {g : Nat → Int} {h : Nat → Int} {im : Int} {mv : Nat → Nat → Int} {S : Nat → Nat → Int} {tn : Int} {tp : Nat → Int} {nt : Int} {T : Nat → Nat → List Int} (hS_ : AI w g h im mv S tn tp nt T) : ∀ i : Nat, (i : Int) < tn → mI w 2 i = jI (tp i) := hS_.2.2.2.2.2.2.2.2.2.2.2.2.2.2.2.2.2.2.1
theorem AI.tx {w : ai_H} {g : Nat → Int} {h : Nat → Int} {im : Int} {mv : Nat → Nat → Int} {S : Nat → Nat → Int} {tn : Int} {tp : Nat → Int} {nt : Int} {T : Nat → Nat → List Int} (hS_ : AI w g h im mv S tn tp nt T) : TX w nt T := hS_.2.2.2.2.2.2.2.2.2.2.2.2.2.2.2.2.2.2.2.1
theorem AI.tO {w : ai_H} {g : Nat → Int} {h : Nat → Int} {im : Int} {mv : Nat → Nat → Int} {S : Nat → Nat → Int} {tn : Int} {tp : Nat → Int} {nt : Int} {T : Nat → Nat → List Int} (hS_ : AI w g h im mv S tn tp nt T) : TXo w nt := hS_.2.2.2.2.2.2.2.2.2.2.2.2.2.2.2.2.2.2.2.2.1
theorem AI.mn {w : ai_H} {g : Nat → Int} {h : Nat → Int} {im : Int} {mv : Nat → Nat → Int} {S : Nat → Nat → Int} {tn : Int} {tp : Nat → Int} {nt : Int} {T : Nat → Nat → List Int} (hS_ : AI w g h im mv S tn tp nt T) : (mN w : Int) = 63 + 3 * nt := hS_.2.2.2.2.2.2.2.2.2.2.2.2.2.2.2.2.2.2.2.2.2
theorem AI.kd {w : ai_H} {g h : Nat → Int} {im : Int} {mv S : Nat → Nat → Int} {tn : Int} {tp : Nat → Int} {nt : Int} {T : Nat → Nat → List Int} (hA : AI w g h im mv S tn tp nt T) {e : Nat} (he : (e : Int) < g 3) : mI w 9 e = jI (g (10 + e)) := by rw [mI_v]; exact congrArg jI (hA.po.2.2.2 e he).1
theorem AI.mo {w : ai_H} {g h : Nat → Int} {im : Int} {mv S : Nat → Nat → Int} {tn : Int} {tp : Nat → Int} {nt : Int} {T : Nat → Nat → List Int} (hA : AI w g h im mv S tn tp nt T) {e : Nat} (he : (e : Int) < g 3) : mI w 10 e = jI (g (20 + e)) := by rw [mI_v]; exact congrArg jI (hA.po.2.2.2 e he).2.1
theorem AI.wi {w : ai_H} {g h : Nat → Int} {im : Int} {mv S : Nat → Nat → Int} {tn : Int} {tp : Nat → Int} {nt : Int} {T : Nat → Nat → List Int} (hA : AI w g h im mv S tn tp nt T) {e : Nat} (he : (e : Int) < g 3) : mI w 11 e = jI (g (30 + e)) := by rw [mI_v]; exact congrArg jI (hA.po.2.2.2 e he).2.2.1
theorem AI.la {w : ai_H} {g h : Nat → Int} {im : Int} {mv S : Nat → Nat → Int} {tn : Int} {tp : Nat → Int} {nt : Int} {T : Nat → Nat → List Int} (hA : AI w g h im mv S tn tp nt T) {e : Nat} (he : (e : Int) < g 3) : mI w 12 e = jI (g (40 + e)) := by rw [mI_v]; exact congrArg jI (hA.po.2.2.2 e he).2.2.2
theorem LW.i1 {w : ai_H} {nt : Int} (h : LW w nt) : mI w 5 1 = jI nt := by rw [mI_v, h.v1]
def MB (g : Nat → Int) (r : Nat → Int) : Prop := 0 ≤ r 0 ∧ r 0 < 5 ∧ -4 ≤ r 1 ∧ r 1 ≤ 4 ∧ 0 ≤ r 2 ∧ r 2 ≤ 3 ∧ 0 ≤ r 3 ∧ r 3 < g 0 ∧ 0 ≤ r 4 ∧ r 4 ≤ 1 ∧ 0 ≤ r 5 ∧ r 5 < g 0
def SB (g : Nat → Int) (h : Nat → Int) (im : Int) (mv : Nat → Nat → Int) (S : Nat → Nat → Int) (tn : Int) (tp : Nat → Int) (nt : Int) (T : Nat → Nat → List Int) : Prop := (GB g) ∧ (g 2 = g 5 ∧ 0 ≤ g 5 ∧ g 5 ≤ 60) ∧ (∀ e : Nat, (e : Int) < g 3 → 0 ≤ g (50 + e) ∧ g (50 + e) ≤ 1) ∧ (g 4 < nt) ∧ (im = 0 ∨ im = 1) ∧ (im = 1 → GB h ∧ h 2 = h 5 ∧ 0 ≤ h 5 ∧ h 5 ≤ g 5 ∧ h 3 ≤ g 3 ∧ h 4 < nt) ∧ (im = 1 → ∀ e : Nat, (e : Int) < h 3 → 0 ≤ h (50 + e) ∧ h (50 + e) ≤ 1 ∧ h (10 + e) = g (10 + e) ∧ h (20 + e) = g (20 + e)) ∧ (im = 1 → ∀ k : Nat, (k : Int) < h 5 → MB h (mv k)) ∧ (∀ k : Nat, (k : Int) < g 5 → MB g (mv k)) ∧ (∀ s : Nat, s < 4 → -1 ≤ S s 100 ∧ S s 100 ≤ 2 ∧ 0 ≤ S s 101 ∧ S s 101 ≤ 40) ∧ (∀ s i : Nat, s < 4 → i < 40 → -2147483648 ≤ S s i ∧ S s i < 2147483648) ∧ (0 ≤ tn ∧ tn ≤ 160) ∧ (∀ i : Nat, (i : Int) < tn → 0 ≤ tp i ∧ tp i ≤ 255) ∧ (1 ≤ nt ∧ nt ≤ 6)
theorem SB.gb {g : Nat → Int} {h : Nat → Int} {im : Int} {mv : Nat → Nat → Int} {S : Nat → Nat → Int} {tn : Int} {tp : Nat → Int} {nt : Int} {T : Nat → Nat → List Int} (hS_ : SB g h im mv S tn tp nt T) : GB g := hS_.1
theorem SB.gm {g : Nat → Int} {h : Nat → Int} {im : Int} {mv : Nat → Nat → Int} {S : Nat → Nat → Int} {tn : Int} {tp : Nat → Int} {nt : Int} {T : Nat → Nat → List Int} (hS_ : SB g h im mv S tn tp nt T) : g 2 = g 5 ∧ 0 ≤ g 5 ∧ g 5 ≤ 60 := hS_.2.1
theorem SB.gs {g : Nat → Int} {h : Nat → Int} {im : Int} {mv : Nat → Nat → Int} {S : Nat → Nat → Int} {tn : Int} {tp : Nat → Int} {nt : Int} {T : Nat → Nat → List Int} (hS_ : SB g h im mv S tn tp nt T) : ∀ e : Nat, (e : Int) < g 3 → 0 ≤ g (50 + e) ∧ g (50 + e) ≤ 1 := hS_.2.2.1
theorem SB.gl {g : Nat → Int} {h : Nat → Int} {im : Int} {mv : Nat → Nat → Int} {S : Nat → Nat → Int} {tn : Int} {tp : Nat → Int} {nt : Int} {T : Nat → Nat → List Int} (hS_ : SB g h im mv S tn tp nt T) : g 4 < nt := hS_.2.2.2.1
theorem SB.im {g : Nat → Int} {h : Nat → Int} {im : Int} {mv : Nat → Nat → Int} {S : Nat → Nat → Int} {tn : Int} {tp : Nat → Int} {nt : Int} {T : Nat → Nat → List Int} (hS_ : SB g h im mv S tn tp nt T) : im = 0 ∨ im = 1 := hS_.2.2.2.2.1
theorem SB.hb {g : Nat → Int} {h : Nat → Int} {im : Int} {mv : Nat → Nat → Int} {S : Nat → Nat → Int} {tn : Int} {tp : Nat → Int} {nt : Int} {T : Nat → Nat → List Int} (hS_ : SB g h im mv S tn tp nt T) : im = 1 → GB h ∧ h 2 = h 5 ∧ 0 ≤ h 5 ∧ h 5 ≤ g 5 ∧ h 3 ≤ g 3 ∧ h 4 < nt := hS_.2.2.2.2.2.1
theorem SB.he {g : Nat → Int} {h : Nat → Int} {im : Int} {mv : Nat → Nat → Int} {S : Nat → Nat → Int} {tn : Int} {tp : Nat → Int} {nt : Int} {T : Nat → Nat → List Int} (hS_ : SB g h im mv S tn tp nt T) : im = 1 → ∀ e : Nat, (e : Int) < h 3 → 0 ≤ h (50 + e) ∧ h (50 + e) ≤ 1 ∧ h (10 + e) = g (10 + e) ∧ h (20 + e) = g (20 + e) := hS_.2.2.2.2.2.2.1
theorem SB.hk {g : Nat → Int} {h : Nat → Int} {im : Int} {mv : Nat → Nat → Int} {S : Nat → Nat → Int} {tn : Int} {tp : Nat → Int} {nt : Int} {T : Nat → Nat → List Int} (hS_ : SB g h im mv S tn tp nt T) : im = 1 → ∀ k : Nat, (k : Int) < h 5 → MB h (mv k) := hS_.2.2.2.2.2.2.2.1
theorem SB.mv {g : Nat → Int} {h : Nat → Int} {im : Int} {mv : Nat → Nat → Int} {S : Nat → Nat → Int} {tn : Int} {tp : Nat → Int} {nt : Int} {T : Nat → Nat → List Int} (hS_ : SB g h im mv S tn tp nt T) : ∀ k : Nat, (k : Int) < g 5 → MB g (mv k) := hS_.2.2.2.2.2.2.2.2.1
theorem SB.h0 {g : Nat → Int} {h : Nat → Int} {im : Int} {mv : Nat → Nat → Int} {S : Nat → Nat → Int} {tn : Int} {tp : Nat → Int} {nt : Int} {T : Nat → Nat → List Int} (hS_ : SB g h im mv S tn tp nt T) : ∀ s : Nat, s < 4 → -1 ≤ S s 100 ∧ S s 100 ≤ 2 ∧ 0 ≤ S s 101 ∧ S s 101 ≤ 40 := hS_.2.2.2.2.2.2.2.2.2.1
theorem SB.hi {g : Nat → Int} {h : Nat → Int} {im : Int} {mv : Nat → Nat → Int} {S : Nat → Nat → Int} {tn : Int} {tp : Nat → Int} {nt : Int} {T : Nat → Nat → List Int} (hS_ : SB g h im mv S tn tp nt T) : ∀ s i : Nat, s < 4 → i < 40 → -2147483648 ≤ S s i ∧ S s i < 2147483648 := hS_.2.2.2.2.2.2.2.2.2.2.1
theorem SB.tn {g : Nat → Int} {h : Nat → Int} {im : Int} {mv : Nat → Nat → Int} {S : Nat → Nat → Int} {tn : Int} {tp : Nat → Int} {nt : Int} {T : Nat → Nat → List Int} (hS_ : SB g h im mv S tn tp nt T) : 0 ≤ tn ∧ tn ≤ 160 := hS_.2.2.2.2.2.2.2.2.2.2.2.1
theorem SB.tp {g : Nat → Int} {h : Nat → Int} {im : Int} {mv : Nat → Nat → Int} {S : Nat → Nat → Int} {tn : Int} {tp : Nat → Int} {nt : Int} {T : Nat → Nat → List Int} (hS_ : SB g h im mv S tn tp nt T) : ∀ i : Nat, (i : Int) < tn → 0 ≤ tp i ∧ tp i ≤ 255 := hS_.2.2.2.2.2.2.2.2.2.2.2.2.1
theorem SB.nt {g : Nat → Int} {h : Nat → Int} {im : Int} {mv : Nat → Nat → Int} {S : Nat → Nat → Int} {tn : Int} {tp : Nat → Int} {nt : Int} {T : Nat → Nat → List Int} (hS_ : SB g h im mv S tn tp nt T) : 1 ≤ nt ∧ nt ≤ 6 := hS_.2.2.2.2.2.2.2.2.2.2.2.2.2
/-! the model's picture -/
def wdF (i : Nat) : Int := ([97, 108, 108, 111, 119, 115, 32, 32, 119, 111, 114, 116, 104, 32, 32, 32, 112, 114, 105, 99, 101, 32, 32, 32, 114, 101, 97, 115, 111, 110, 32, 32, 115, 116, 101, 112, 32, 32, 32, 32, 115, 116, 111, 110, 101, 32, 32, 32, 109, 111, 114, 101, 32, 32, 32, 32, 102, 97, 114, 32, 32, 32, 32, 32, 116, 117, 114, 110, 32, 32, 32, 32, 111, 114, 32, 32, 32, 32, 32, 32, 97, 110, 100, 32, 32, 32, 32, 32, 110, 111, 116, 32, 32, 32, 32, 32] : List Int).getD i 0
def MI (w : ai_H) (g : Nat → Int) (h : Nat → Int) (im : Int) (mv : Nat → Nat → Int) (S : Nat → Nat → Int) (tn : Int) (tp : Nat → Int) (nt : Int) (T : Nat → Nat → List Int) : Prop := (MO w g) ∧ (mI w 47 7 = jI (g 5)) ∧ (∀ e : Nat, (e : Int) < g 3 → mI w 50 (3 * e + 2) = jI (g (50 + e))) ∧ (mI w 47 15 = jI im) ∧ (im = 1 → mI w 47 16 = jI (h 3) ∧ mI w 47 17 = jI (h 0) ∧ mI w 47 18 = jI (h 1) ∧ mI w 47 19 = jI (h 2) ∧ mI w 47 20 = jI (h 5) ∧ mI w 47 21 = jI (h 4)) ∧ (im = 1 → ∀ e : Nat, (e : Int) < h 3 → mI w 55 (3 * e) = jI (h (30 + e)) ∧ mI w 55 (3 * e + 1) = jI (h (40 + e)) ∧ mI w 55 (3 * e + 2) = jI (h (50 + e))) ∧ (im = 1 → ∀ k c : Nat, (k : Int) < h 5 → c < 6 → mI w 56 (6 * k + c) = jI (mv k c)) ∧ (∀ k c : Nat, (k : Int) < g 5 → c < 6 → mI w 51 (6 * k + c) = jI (mv k c)) ∧ (∀ s : Nat, s < 4 → mI w 57 s = jI (S s 100)) ∧ (∀ s : Nat, s < 4 → mI w 58 s = jI (S s 101)) ∧ (∀ s i : Nat, s < 4 → i < 40 → mI w 59 (40 * s + i) = jI (S s i)) ∧ (mI w 47 10 = jI tn) ∧ (∀ i : Nat, (i : Int) < tn → mI w 52 i = jI (tp i)) ∧ (TM w nt T) ∧ (mI w 47 13 = jI nt) ∧ (∀ i : Nat, i < 96 → mI w 61 i = jI (wdF i))
theorem MI.mo {w : ai_H} {g : Nat → Int} {h : Nat → Int} {im : Int} {mv : Nat → Nat → Int} {S : Nat → Nat → Int} {tn : Int} {tp : Nat → Int} {nt : Int} {T : Nat → Nat → List Int} (hS_ : MI w g h im mv S tn tp nt T) : MO w g := hS_.1
theorem MI.m7 {w : ai_H} {g : Nat → Int} {h : Nat → Int} {im : Int} {mv : Nat → Nat → Int} {S : Nat → Nat → Int} {tn : Int} {tp : Nat → Int} {nt : Int} {T : Nat → Nat → List Int} (hS_ : MI w g h im mv S tn tp nt T) : mI w 47 7 = jI (g 5) := hS_.2.1
theorem MI.ps {w : ai_H} {g : Nat → Int} {h : Nat → Int} {im : Int} {mv : Nat → Nat → Int} {S : Nat → Nat → Int} {tn : Int} {tp : Nat → Int} {nt : Int} {T : Nat → Nat → List Int} (hS_ : MI w g h im mv S tn tp nt T) : ∀ e : Nat, (e : Int) < g 3 → mI w 50 (3 * e + 2) = jI (g (50 + e)) := hS_.2.2.1
theorem MI.ik {w : ai_H} {g : Nat → Int} {h : Nat → Int} {im : Int} {mv : Nat → Nat → Int} {S : Nat → Nat → Int} {tn : Int} {tp : Nat → Int} {nt : Int} {T : Nat → Nat → List Int} (hS_ : MI w g h im mv S tn tp nt T) : mI w 47 15 = jI im := hS_.2.2.2.1
theorem MI.k0 {w : ai_H} {g : Nat → Int} {h : Nat → Int} {im : Int} {mv : Nat → Nat → Int} {S : Nat → Nat → Int} {tn : Int} {tp : Nat → Int} {nt : Int} {T : Nat → Nat → List Int} (hS_ : MI w g h im mv S tn tp nt T) : im = 1 → mI w 47 16 = jI (h 3) ∧ mI w 47 17 = jI (h 0) ∧ mI w 47 18 = jI (h 1) ∧ mI w 47 19 = jI (h 2) ∧ mI w 47 20 = jI (h 5) ∧ mI w 47 21 = jI (h 4) := hS_.2.2.2.2.1
theorem MI.ke {w : ai_H} {g : Nat → Int} {h : Nat → Int} {im : Int} {mv : Nat → Nat → Int} {S : Nat → Nat → Int} {tn : Int} {tp : Nat → Int} {nt : Int} {T : Nat → Nat → List Int} (hS_ : MI w g h im mv S tn tp nt T) : im = 1 → ∀ e : Nat, (e : Int) < h 3 → mI w 55 (3 * e) = jI (h (30 + e)) ∧ mI w 55 (3 * e + 1) = jI (h (40 + e)) ∧ mI w 55 (3 * e + 2) = jI (h (50 + e)) := hS_.2.2.2.2.2.1
theorem MI.kv {w : ai_H} {g : Nat → Int} {h : Nat → Int} {im : Int} {mv : Nat → Nat → Int} {S : Nat → Nat → Int} {tn : Int} {tp : Nat → Int} {nt : Int} {T : Nat → Nat → List Int} (hS_ : MI w g h im mv S tn tp nt T) : im = 1 → ∀ k c : Nat, (k : Int) < h 5 → c < 6 → mI w 56 (6 * k + c) = jI (mv k c) := hS_.2.2.2.2.2.2.1
theorem MI.mv {w : ai_H} {g : Nat → Int} {h : Nat → Int} {im : Int} {mv : Nat → Nat → Int} {S : Nat → Nat → Int} {tn : Int} {tp : Nat → Int} {nt : Int} {T : Nat → Nat → List Int} (hS_ : MI w g h im mv S tn tp nt T) : ∀ k c : Nat, (k : Int) < g 5 → c < 6 → mI w 51 (6 * k + c) = jI (mv k c) := hS_.2.2.2.2.2.2.2.1
theorem MI.h0 {w : ai_H} {g : Nat → Int} {h : Nat → Int} {im : Int} {mv : Nat → Nat → Int} {S : Nat → Nat → Int} {tn : Int} {tp : Nat → Int} {nt : Int} {T : Nat → Nat → List Int} (hS_ : MI w g h im mv S tn tp nt T) : ∀ s : Nat, s < 4 → mI w 57 s = jI (S s 100) := hS_.2.2.2.2.2.2.2.2.1
theorem MI.h1 {w : ai_H} {g : Nat → Int} {h : Nat → Int} {im : Int} {mv : Nat → Nat → Int} {S : Nat → Nat → Int} {tn : Int} {tp : Nat → Int} {nt : Int} {T : Nat → Nat → List Int} (hS_ : MI w g h im mv S tn tp nt T) : ∀ s : Nat, s < 4 → mI w 58 s = jI (S s 101) := hS_.2.2.2.2.2.2.2.2.2.1
theorem MI.hi {w : ai_H} {g : Nat → Int} {h : Nat → Int} {im : Int} {mv : Nat → Nat → Int} {S : Nat → Nat → Int} {tn : Int} {tp : Nat → Int} {nt : Int} {T : Nat → Nat → List Int} (hS_ : MI w g h im mv S tn tp nt T) : ∀ s i : Nat, s < 4 → i < 40 → mI w 59 (40 * s + i) = jI (S s i) := hS_.2.2.2.2.2.2.2.2.2.2.1
theorem MI.tn {w : ai_H} {g : Nat → Int} {h : Nat → Int} {im : Int} {mv : Nat → Nat → Int} {S : Nat → Nat → Int} {tn : Int} {tp : Nat → Int} {nt : Int} {T : Nat → Nat → List Int} (hS_ : MI w g h im mv S tn tp nt T) : mI w 47 10 = jI tn := hS_.2.2.2.2.2.2.2.2.2.2.2.1
theorem MI.tp {w : ai_H} {g : Nat → Int} {h : Nat → Int} {im : Int} {mv : Nat → Nat → Int} {S : Nat → Nat → Int} {tn : Int} {tp : Nat → Int} {nt : Int} {T : Nat → Nat → List Int} (hS_ : MI w g h im mv S tn tp nt T) : ∀ i : Nat, (i : Int) < tn → mI w 52 i = jI (tp i) := hS_.2.2.2.2.2.2.2.2.2.2.2.2.1
theorem MI.tx {w : ai_H} {g : Nat → Int} {h : Nat → Int} {im : Int} {mv : Nat → Nat → Int} {S : Nat → Nat → Int} {tn : Int} {tp : Nat → Int} {nt : Int} {T : Nat → Nat → List Int} (hS_ : MI w g h im mv S tn tp nt T) : TM w nt T := hS_.2.2.2.2.2.2.2.2.2.2.2.2.2.1
theorem MI.nt {w : ai_H} {g : Nat → Int} {h : Nat → Int} {im : Int} {mv : Nat → Nat → Int} {S : Nat → Nat → Int} {tn : Int} {tp : Nat → Int} {nt : Int} {T : Nat → Nat → List Int} (hS_ : MI w g h im mv S tn tp nt T) : mI w 47 13 = jI nt := hS_.2.2.2.2.2.2.2.2.2.2.2.2.2.2.1
theorem MI.wd {w : ai_H} {g : Nat → Int} {h : Nat → Int} {im : Int} {mv : Nat → Nat → Int} {S : Nat → Nat → Int} {tn : Int} {tp : Nat → Int} {nt : Int} {T : Nat → Nat → List Int} (hS_ : MI w g h im mv S tn tp nt T) : ∀ i : Nat, i < 96 → mI w 61 i = jI (wdF i) := hS_.2.2.2.2.2.2.2.2.2.2.2.2.2.2.2
def LI (w : ai_H) : Prop := ∃ g h im mv S tn tp nt T, SB g h im mv S tn tp nt T ∧ AI w g h im mv S tn tp nt T ∧ MI w g h im mv S tn tp nt T
theorem PO.ch {X : Nat → Nat → Prop} {w w' : ai_H} {p : Nat} {g : Nat → Int} (h : PO w p g) (hx : Ch X w w') (hX : ∀ i k, p ≤ i → i ≤ p + 5 → ¬ X i k) : PO w' p g := by
  obtain ⟨k1, k2, k3, k4⟩ := h
  have v : ∀ i k, p ≤ i → i ≤ p + 5 → vI w' i k = vI w i k := fun i k a b => hx.v (hX i k a b)
  refine ⟨k1.eq2 hx.1, k2, ?_, ?_⟩
  · simp (disch := omega) only [v]
    exact k3
  · intro e he
    have := k4 e he
    unfold PE at this ⊢
    simp (disch := omega) only [v]
    exact this
theorem MG.eq2 {w w' : ai_H} (h : MG w) (he : w'.2 = w.2) : MG w' := by
  unfold MG mS mP at h ⊢
  rw [he]
  exact h
theorem AI.ch {w w' : ai_H} {g h : Nat → Int} {im : Int} {mv S : Nat → Nat → Int} {tn : Int} {tp : Nat → Int} {nt : Int} {T : Nat → Nat → List Int} (hA : AI w g h im mv S tn tp nt T) (hB : SB g h im mv S tn tp nt T) (hx : Ch yA w w') : AI w' g h im mv S tn tp nt T := by
  have hi : ∀ i k, ¬ yA i k → mI w' i k = mI w i k := fun i k => hx.i
  have hb := hB.h0
  refine ⟨hA.ag.eq2 hx.1, hA.po.ch hx (fun i k a b z => ?_), ?_, fun e he => ?_, ?_, fun z => (hA.ko z).ch hx (fun i k a b z => ?_), fun z => ?_, fun z e he => ?_, fun k hk => ?_, fun k hk => ?_, fun k hk => ?_, fun k hk => ?_, fun k hk => ?_, fun k hk => ?_, fun s hs => ?_, fun s hs => ?_, fun s i hs hi => ?_, ?_, fun i hi => ?_, hA.tx.ch hA.tO hx (fun i k z => ?_), hA.tO.ch hx, ?_⟩
  · unfold yA xA at z
    omega
  · rw [hi _ _ (by unfold yA xA; omega)]
    exact hA.pm
  · rw [hi _ _ (by unfold yA xA; omega)]
    exact hA.ps e he
  · rw [hi _ _ (by unfold yA xA; omega)]
    exact hA.ik
  · unfold yA xA at z
    omega
  · rw [hi _ _ (by unfold yA xA; omega)]
    exact hA.km z
  · rw [hi _ _ (by unfold yA xA; omega)]
    exact hA.ks z e he
  · rw [hi _ _ (by unfold yA xA; omega)]
    exact hA.v0 k hk
  · rw [hi _ _ (by unfold yA xA; omega)]
    exact hA.v1 k hk
  · rw [hi _ _ (by unfold yA xA; omega)]
    exact hA.v2 k hk
  · rw [hi _ _ (by unfold yA xA; omega)]
    exact hA.v3 k hk
  · rw [hi _ _ (by unfold yA xA; omega)]
    exact hA.v4 k hk
  · rw [hi _ _ (by unfold yA xA; omega)]
    exact hA.v5 k hk
  · rw [hi _ _ (by unfold yA xA; omega)]
    exact hA.h0 s hs
  · rw [hi _ _ (by unfold yA xA; omega)]
    exact hA.h1 s hs
  · rw [hx.i (by unfold yA xA; omega)]
    exact hA.hi s i hs hi
  · rw [hi _ _ (by unfold yA xA; omega)]
    exact hA.tn
  · rw [hx.i (by unfold yA xA; omega)]
    exact hA.tp i hi
  · unfold yA xA at z
    unfold okc
    omega
  · rw [hx.n]
    exact hA.mn
theorem MI.fa {w w' : ai_H} {g h : Nat → Int} {im : Int} {mv S : Nat → Nat → Int} {tn : Int} {tp : Nat → Int} {nt : Int} {T : Nat → Nat → List Int} (hM : MI w g h im mv S tn tp nt T) (hB : SB g h im mv S tn tp nt T) (hx : FA w w') : MI w' g h im mv S tn tp nt T := by
  have hs : ∀ i, 47 ≤ i → i ≤ 65 → mS w' i = mS w i := fun i a b => (hx i a b).1
  have hp : ∀ i k, 47 ≤ i → i ≤ 65 → mP w' i k = mP w i k := fun i k a b => ((hx i a b).2 k).1
  have hi : ∀ i k, 47 ≤ i → i ≤ 65 → ¬ xM i k → mI w' i k = mI w i k := fun i k a b => ((hx i a b).2 k).2
  have gb := hB.gb.b
  refine ⟨⟨?_, hM.mo.2.1, ?_, fun e he => ?_⟩, ?_, fun e he => ?_, ?_, fun z => ?_, fun z e he => ?_, fun z k c hk hc => ?_, fun k c hk hc => ?_, fun s h1 => ?_, fun s h1 => ?_, fun s i h1 h2 => ?_, ?_, fun i h1 => ?_, fun t h1 p h2 => ?_, ?_, fun i h1 => ?_⟩
  · have := hM.mo.1
    unfold MG at this ⊢
    simp (disch := decide) only [hs, hp]
    exact this
  · rw [hi _ _ (by omega) (by omega) (by unfold xM; omega), hi _ _ (by omega) (by omega) (by unfold xM; omega), hi _ _ (by omega) (by omega) (by unfold xM; omega), hi _ _ (by omega) (by omega) (by unfold xM; omega), hi _ _ (by omega) (by omega) (by unfold xM; omega)]
    exact hM.mo.2.2.1
  · rw [hi _ _ (by omega) (by omega) (by unfold xM; omega), hi _ _ (by omega) (by omega) (by unfold xM; omega), hi _ _ (by omega) (by omega) (by unfold xM; omega), hi _ _ (by omega) (by omega) (by unfold xM; omega)]
    exact hM.mo.2.2.2 e he
  · rw [hi _ _ (by omega) (by omega) (by unfold xM; omega)]
    exact hM.m7
  · rw [hi _ _ (by omega) (by omega) (by unfold xM; omega)]
    exact hM.ps e he
  · rw [hi _ _ (by omega) (by omega) (by unfold xM; omega)]
    exact hM.ik
  · rw [hi _ _ (by omega) (by omega) (by unfold xM; omega), hi _ _ (by omega) (by omega) (by unfold xM; omega), hi _ _ (by omega) (by omega) (by unfold xM; omega), hi _ _ (by omega) (by omega) (by unfold xM; omega), hi _ _ (by omega) (by omega) (by unfold xM; omega), hi _ _ (by omega) (by omega) (by unfold xM; omega)]
    exact hM.k0 z
  · rw [hi _ _ (by omega) (by omega) (by unfold xM; omega), hi _ _ (by omega) (by omega) (by unfold xM; omega), hi _ _ (by omega) (by omega) (by unfold xM; omega)]
    exact hM.ke z e he
  · rw [hi _ _ (by omega) (by omega) (by unfold xM; omega)]
    exact hM.kv z k c hk hc
  · rw [hi _ _ (by omega) (by omega) (by unfold xM; omega)]
    exact hM.mv k c hk hc
  · rw [hi _ _ (by omega) (by omega) (by unfold xM; omega)]
    exact hM.h0 s h1
  · rw [hi _ _ (by omega) (by omega) (by unfold xM; omega)]
    exact hM.h1 s h1
  · rw [hi _ _ (by omega) (by omega) (by unfold xM; omega)]
    exact hM.hi s i h1 h2
  · rw [hi _ _ (by omega) (by omega) (by unfold xM; omega)]
    exact hM.tn
  · rw [hi _ _ (by omega) (by omega) (by unfold xM; omega)]
    exact hM.tp i h1
  · have := hM.tx t h1 p h2
    unfold TMs at this ⊢
    have h53 : ∀ k, mI w' 53 k = mI w 53 k := fun k => hi 53 k (by omega) (by omega) (by unfold xM; omega)
    have h54 : ∀ k, mI w' 54 k = mI w 54 k := fun k => hi 54 k (by omega) (by omega) (by unfold xM; omega)
    simp only [h53, h54]
    exact this
  · rw [hi _ _ (by omega) (by omega) (by unfold xM; omega)]
    exact hM.nt
  · rw [hi _ _ (by omega) (by omega) (by unfold xM; omega)]
    exact hM.wd i h1
theorem LI.mk {w : ai_H} {g h : Nat → Int} {im : Int} {mv S : Nat → Nat → Int} {tn : Int} {tp : Nat → Int} {nt : Int} {T : Nat → Nat → List Int} (hB : SB g h im mv S tn tp nt T) (hA : AI w g h im mv S tn tp nt T) (hM : MI w g h im mv S tn tp nt T) : LI w := ⟨g, h, im, mv, S, tn, tp, nt, T, hB, hA, hM⟩
theorem LI.xa {w w' : ai_H} {g h : Nat → Int} {im : Int} {mv S : Nat → Nat → Int} {tn : Int} {tp : Nat → Int} {nt : Int} {T : Nat → Nat → List Int} (hB : SB g h im mv S tn tp nt T) (hA : AI w g h im mv S tn tp nt T) (hM : MI w g h im mv S tn tp nt T) (hx : Ch xA w w') : AI w' g h im mv S tn tp nt T ∧ MI w' g h im mv S tn tp nt T := ⟨hA.ch hB hx.ay, hM.fa hB (FA.xa hx)⟩
theorem LI.xm {w w' : ai_H} {g h : Nat → Int} {im : Int} {mv S : Nat → Nat → Int} {tn : Int} {tp : Nat → Int} {nt : Int} {T : Nat → Nat → List Int} (hB : SB g h im mv S tn tp nt T) (hA : AI w g h im mv S tn tp nt T) (hM : MI w g h im mv S tn tp nt T) (hx : Ch xM w w') : AI w' g h im mv S tn tp nt T ∧ MI w' g h im mv S tn tp nt T := ⟨hA.ch hB hx.my, hM.fa hB (FA.xm hx)⟩
/-! a call of the class, then the model's -/
def PQ (mM : ai_M) (d : Nat) (as : List Value) : Option Value → ai_H → Prop := fun r w1 => ∃ z : Int32, r = some (.int z) ∧ Cl d mM as w1 (fun r' w2 => r' = some (.int z) ∧ LI w2)
theorem PQ.mk {mM : ai_M} {d : Nat} {as : List Value} {z : Int32} {w1 : ai_H} (h : Cl d mM as w1 (fun r' w2 => r' = some (.int z) ∧ LI w2)) : PQ mM d as (some (.int z)) w1 := ⟨z, rfl, h⟩
theorem fin_i {x y : Int} {w : ai_H} (h : x = y) (hL : LI w) : some (Value.int (jI x)) = some (.int (jI y)) ∧ LI w := ⟨by rw [h], hL⟩
