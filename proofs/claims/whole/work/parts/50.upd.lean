/-! the game is changed: what stays -/
theorem PO.of {w : ai_H} {p : Nat} {g : Nat → Int} (hp : PG w p) (hg : GB g) (h1 : mI w p 1 = jI (g 0)) (h2 : mI w p 2 = jI (g 1)) (h3 : mI w p 3 = jI (g 2)) (h5 : mI w p 5 = jI (g 3)) (h6 : mI w p 6 = jI (g 4)) (he : ∀ e : Nat, (e : Int) < g 3 → mI w (p + 1) e = jI (g (10 + e)) ∧ mI w (p + 2) e = jI (g (20 + e)) ∧ mI w (p + 3) e = jI (g (30 + e)) ∧ mI w (p + 4) e = jI (g (40 + e))) : PO w p g := by
  have b := hg.b
  have v : ∀ {i k : Nat} {z : Int}, mI w i k = jI z → -2147483648 ≤ z → z < 2147483648 → vI w i k = z := fun h a b => by
    unfold vI
    rw [h, jt a b]
  refine ⟨hp, hg, ⟨v h1 (by omega) (by omega), v h2 (by omega) (by omega), v h3 (by omega) (by omega), v h5 (by omega) (by omega), v h6 (by omega) (by omega)⟩, fun e h => ?_⟩
  have ge := hg.2 e h
  unfold GE at ge
  obtain ⟨k1, k2, k3, k4⟩ := he e h
  exact ⟨v k1 (by omega) (by omega), v k2 (by omega) (by omega), v k3 (by omega) (by omega), v k4 (by omega) (by omega)⟩
def zA (i k : Nat) : Prop := yA i k ∨ (8 ≤ i ∧ i ≤ 13)
theorem AI.set {w w' : ai_H} {g h : Nat → Int} {im : Int} {mv S : Nat → Nat → Int} {tn : Int} {tp : Nat → Int} {nt : Int} {T : Nat → Nat → List Int} {g' : Nat → Int} (hA : AI w g h im mv S tn tp nt T) (hB : SB g h im mv S tn tp nt T) (hx : Ch zA w w') (po' : PO w' 8 g') (pm' : mI w' 8 4 = jI (g' 5)) (ps' : ∀ e : Nat, (e : Int) < g' 3 → mI w' 13 e = jI (g' (50 + e))) (h5 : g' 5 = g 5) : AI w' g' h im mv S tn tp nt T := by
  have hi : ∀ i k, ¬ zA i k → mI w' i k = mI w i k := fun i k => hx.i
  refine ⟨hA.ag.eq2 hx.1, po', pm', ps', ?_, fun z => (hA.ko z).ch hx (fun i k a b z => ?_), fun z => ?_, fun z e he => ?_, fun k hk => ?_, fun k hk => ?_, fun k hk => ?_, fun k hk => ?_, fun k hk => ?_, fun k hk => ?_, fun s hs => ?_, fun s hs => ?_, fun s i hs hi => ?_, ?_, fun i hi => ?_, hA.tx.ch hA.tO hx (fun i k z => ?_), hA.tO.ch hx, ?_⟩
  · rw [hi _ _ (by unfold zA yA xA; omega)]
    exact hA.ik
  · unfold zA yA xA at z
    omega
  · rw [hi _ _ (by unfold zA yA xA; omega)]
    exact hA.km z
  · rw [hi _ _ (by unfold zA yA xA; omega)]
    exact hA.ks z e he
  · rw [hi _ _ (by unfold zA yA xA; omega)]
    exact hA.v0 k (h5 ▸ hk)
  · rw [hi _ _ (by unfold zA yA xA; omega)]
    exact hA.v1 k (h5 ▸ hk)
  · rw [hi _ _ (by unfold zA yA xA; omega)]
    exact hA.v2 k (h5 ▸ hk)
  · rw [hi _ _ (by unfold zA yA xA; omega)]
    exact hA.v3 k (h5 ▸ hk)
  · rw [hi _ _ (by unfold zA yA xA; omega)]
    exact hA.v4 k (h5 ▸ hk)
  · rw [hi _ _ (by unfold zA yA xA; omega)]
    exact hA.v5 k (h5 ▸ hk)
  · rw [hi _ _ (by unfold zA yA xA; omega)]
    exact hA.h0 s hs
  · rw [hi _ _ (by unfold zA yA xA; omega)]
    exact hA.h1 s hs
  · rw [hx.i (by unfold zA yA xA; omega)]
    exact hA.hi s i hs hi
  · rw [hi _ _ (by unfold zA yA xA; omega)]
    exact hA.tn
  · rw [hx.i (by unfold zA yA xA; omega)]
    exact hA.tp i hi
  · unfold zA yA xA at z
    unfold okc
    omega
  · rw [hx.n]
    exact hA.mn
def zM (i k : Nat) : Prop := xM i k ∨ (i = 47 ∧ (k = 0 ∨ k = 4 ∨ k = 5 ∨ k = 6 ∨ k = 14)) ∨ (48 ≤ i ∧ i ≤ 50)
theorem MI.set {w w' : ai_H} {g h : Nat → Int} {im : Int} {mv S : Nat → Nat → Int} {tn : Int} {tp : Nat → Int} {nt : Int} {T : Nat → Nat → List Int} {g' : Nat → Int} (hM : MI w g h im mv S tn tp nt T) (hB : SB g h im mv S tn tp nt T) (hx : Ch zM w w') (mo' : MO w' g') (ps' : ∀ e : Nat, (e : Int) < g' 3 → mI w' 50 (3 * e + 2) = jI (g' (50 + e))) (h5 : g' 5 = g 5) : MI w' g' h im mv S tn tp nt T := by
  have hi : ∀ i k, ¬ zM i k → mI w' i k = mI w i k := fun i k => hx.i
  refine ⟨mo', ?_, ps', ?_, fun z => ?_, fun z e he => ?_, fun z k c hk hc => ?_, fun k c hk hc => ?_, fun s h1 => ?_, fun s h1 => ?_, fun s i h1 h2 => ?_, ?_, fun i h1 => ?_, fun t h1 p h2 => ?_, ?_, fun i h1 => ?_⟩
  · rw [hi _ _ (by unfold zM xM; omega), h5]
    exact hM.m7
  · rw [hi _ _ (by unfold zM xM; omega)]
    exact hM.ik
  · rw [hi _ _ (by unfold zM xM; omega), hi _ _ (by unfold zM xM; omega), hi _ _ (by unfold zM xM; omega), hi _ _ (by unfold zM xM; omega), hi _ _ (by unfold zM xM; omega), hi _ _ (by unfold zM xM; omega)]
    exact hM.k0 z
  · rw [hi _ _ (by unfold zM xM; omega), hi _ _ (by unfold zM xM; omega), hi _ _ (by unfold zM xM; omega)]
    exact hM.ke z e he
  · rw [hi _ _ (by unfold zM xM; omega)]
    exact hM.kv z k c hk hc
  · rw [hi _ _ (by unfold zM xM; omega)]
    exact hM.mv k c (h5 ▸ hk) hc
  · rw [hi _ _ (by unfold zM xM; omega)]
    exact hM.h0 s h1
  · rw [hi _ _ (by unfold zM xM; omega)]
    exact hM.h1 s h1
  · rw [hi _ _ (by unfold zM xM; omega)]
    exact hM.hi s i h1 h2
  · rw [hi _ _ (by unfold zM xM; omega)]
    exact hM.tn
  · rw [hi _ _ (by unfold zM xM; omega)]
    exact hM.tp i h1
  · have := hM.tx t h1 p h2
    unfold TMs at this ⊢
    have h53 : ∀ k, mI w' 53 k = mI w 53 k := fun k => hi 53 k (by unfold zM xM; omega)
    have h54 : ∀ k, mI w' 54 k = mI w 54 k := fun k => hi 54 k (by unfold zM xM; omega)
    simp only [h53, h54]
    exact this
  · rw [hi _ _ (by unfold zM xM; omega)]
    exact hM.nt
  · rw [hi _ _ (by unfold zM xM; omega)]
    exact hM.wd i h1
theorem SB.set {g h : Nat → Int} {im : Int} {mv S : Nat → Nat → Int} {tn : Int} {tp : Nat → Int} {nt : Int} {T : Nat → Nat → List Int} {g' : Nat → Int} (hB : SB g h im mv S tn tp nt T) (gb' : GB g') (h2 : g' 2 = g 2) (h5 : g' 5 = g 5) (gs' : ∀ e : Nat, (e : Int) < g' 3 → 0 ≤ g' (50 + e) ∧ g' (50 + e) ≤ 1) (gl' : g' 4 < nt) (h3 : g 3 ≤ g' 3) (hke : ∀ e : Nat, (e : Int) < g 3 → g' (10 + e) = g (10 + e) ∧ g' (20 + e) = g (20 + e)) (h0 : g' 0 = g 0 ∨ g 5 = 0) : SB g' h im mv S tn tp nt T := by
  refine ⟨gb', by rw [h2, h5]; exact hB.gm, gs', gl', hB.im, fun z => ?_, fun z e he => ?_, hB.hk, fun k hk => ?_, hB.h0, hB.hi, hB.tn, hB.tp, hB.nt⟩
  · have := hB.hb z
    exact ⟨this.1, this.2.1, this.2.2.1, by omega, by omega, this.2.2.2.2.2⟩
  · have hb := hB.hb z
    have := hB.he z e he
    have hk := hke e (by omega)
    omega
  · rw [h5] at hk
    rcases h0 with h0 | h0
    · have := hB.mv k hk
      unfold MB at this ⊢
      omega
    · omega
theorem FA.za {w w' : ai_H} (h : Ch zA w w') (hn : ∀ i k, 47 ≤ i → i ≤ 65 → ¬ xM i k → mI w' i k = mI w i k) : FA w w' := fun i h1 h2 => ⟨h.s i, fun k => ⟨h.p i k, hn i k h1 h2⟩⟩
/-- a write among the class's own cells -/
theorem FA.ms {w w' : ai_H} (h : FA w w') {i k : Nat} {v : Int32} (hi : i < 47 ∨ 65 < i) : FA w (msI w' i k v) := fun a h1 h2 => ⟨(h a h1 h2).1, fun b => ⟨((h a h1 h2).2 b).1, fun hn => by
  rw [mI_msI, if_neg (by omega)]
  exact ((h a h1 h2).2 b).2 hn⟩⟩
theorem FA.refl (w : ai_H) : FA w w := fun _ _ _ => ⟨rfl, fun _ => ⟨rfl, fun _ => rfl⟩⟩
theorem Ch.zy {w w' : ai_H} (h : Ch zM w w') : Ch yA w w' := h.mono (fun i k z => by unfold zM xM at z; unfold yA xA; omega)
