/-! the tape changed, a text more: the pictures -/
theorem AI.tape {w w' : ai_H} {g h : Nat → Int} {im : Int} {mv S : Nat → Nat → Int} {tn : Int} {tp : Nat → Int} {nt : Int} {T : Nat → Nat → List Int} (hA : AI w g h im mv S tn tp nt T) (hx : Ch (fun i k => (i = 1 ∧ k = 1) ∨ i = 2) w w') {tn' : Int} {tp' : Nat → Int} (h1 : mI w' 1 1 = jI tn') (h2 : ∀ i : Nat, (i : Int) < tn' → mI w' 2 i = jI (tp' i)) : AI w' g h im mv S tn' tp' nt T := by
  have hi : ∀ i k, ¬ ((i = 1 ∧ k = 1) ∨ i = 2) → mI w' i k = mI w i k := fun i k => hx.i
  refine ⟨hA.ag.eq2 hx.1, hA.po.ch hx (fun i k a b z => ?_), ?_, fun e he => ?_, ?_, fun z => (hA.ko z).ch hx (fun i k a b z => ?_), fun z => ?_, fun z e he => ?_, fun k hk => ?_, fun k hk => ?_, fun k hk => ?_, fun k hk => ?_, fun k hk => ?_, fun k hk => ?_, fun s hs => ?_, fun s hs => ?_, fun s i hs hj => ?_, h1, h2, hA.tx.ch hA.tO hx (fun i k z => ?_), hA.tO.ch hx, ?_⟩
  · omega
  · rw [hi _ _ (by omega)]; exact hA.pm
  · rw [hi _ _ (by omega)]; exact hA.ps e he
  · rw [hi _ _ (by omega)]; exact hA.ik
  · omega
  · rw [hi _ _ (by omega)]; exact hA.km z
  · rw [hi _ _ (by omega)]; exact hA.ks z e he
  · rw [hi _ _ (by omega)]; exact hA.v0 k hk
  · rw [hi _ _ (by omega)]; exact hA.v1 k hk
  · rw [hi _ _ (by omega)]; exact hA.v2 k hk
  · rw [hi _ _ (by omega)]; exact hA.v3 k hk
  · rw [hi _ _ (by omega)]; exact hA.v4 k hk
  · rw [hi _ _ (by omega)]; exact hA.v5 k hk
  · rw [hi _ _ (by omega)]; exact hA.h0 s hs
  · rw [hi _ _ (by omega)]; exact hA.h1 s hs
  · rw [hi _ _ (by omega)]; exact hA.hi s i hs hj
  · unfold okc
    omega
  · rw [hx.n]; exact hA.mn
theorem MI.tape {w w' : ai_H} {g h : Nat → Int} {im : Int} {mv S : Nat → Nat → Int} {tn : Int} {tp : Nat → Int} {nt : Int} {T : Nat → Nat → List Int} (hM : MI w g h im mv S tn tp nt T) (hB : SB g h im mv S tn tp nt T) (hx : Ch (fun i k => (i = 47 ∧ k = 10) ∨ i = 52) w w') {tn' : Int} {tp' : Nat → Int} (h1 : mI w' 47 10 = jI tn') (h2 : ∀ i : Nat, (i : Int) < tn' → mI w' 52 i = jI (tp' i)) : MI w' g h im mv S tn' tp' nt T := by
  have hi : ∀ i k, ¬ ((i = 47 ∧ k = 10) ∨ i = 52) → mI w' i k = mI w i k := fun i k => hx.i
  refine ⟨⟨hM.mo.1.eq2 hx.1, hM.mo.2.1, ?_, fun e he => ?_⟩, ?_, fun e he => ?_, ?_, fun z => ?_, fun z e he => ?_, fun z k c hk hc => ?_, fun k c hk hc => ?_, fun s hs => ?_, fun s hs => ?_, fun s i hs hj => ?_, h1, h2, fun t ht p hp => ?_, ?_, fun i hj => ?_⟩
  · rw [hi _ _ (by omega), hi _ _ (by omega), hi _ _ (by omega), hi _ _ (by omega), hi _ _ (by omega)]
    exact hM.mo.2.2.1
  · rw [hi _ _ (by omega), hi _ _ (by omega), hi _ _ (by omega), hi _ _ (by omega)]
    exact hM.mo.2.2.2 e he
  · rw [hi _ _ (by omega)]; exact hM.m7
  · rw [hi _ _ (by omega)]; exact hM.ps e he
  · rw [hi _ _ (by omega)]; exact hM.ik
  · rw [hi _ _ (by omega), hi _ _ (by omega), hi _ _ (by omega), hi _ _ (by omega), hi _ _ (by omega), hi _ _ (by omega)]
    exact hM.k0 z
  · rw [hi _ _ (by omega), hi _ _ (by omega), hi _ _ (by omega)]
    exact hM.ke z e he
  · rw [hi _ _ (by omega)]; exact hM.kv z k c hk hc
  · rw [hi _ _ (by omega)]; exact hM.mv k c hk hc
  · rw [hi _ _ (by omega)]; exact hM.h0 s hs
  · rw [hi _ _ (by omega)]; exact hM.h1 s hs
  · rw [hi _ _ (by omega)]; exact hM.hi s i hs hj
  · have := hM.tx t ht p hp
    unfold TMs at this ⊢
    simp (disch := omega) only [hi]
    exact this
  · rw [hi _ _ (by omega)]; exact hM.nt
  · rw [hi _ _ (by omega)]; exact hM.wd i hj
theorem SB.tape {g h : Nat → Int} {im : Int} {mv S : Nat → Nat → Int} {tn : Int} {tp : Nat → Int} {nt : Int} {T : Nat → Nat → List Int} (hB : SB g h im mv S tn tp nt T) {tn' : Int} {tp' : Nat → Int} (h1 : 0 ≤ tn' ∧ tn' ≤ 160) (h2 : ∀ i : Nat, (i : Int) < tn' → 0 ≤ tp' i ∧ tp' i ≤ 255) : SB g h im mv S tn' tp' nt T :=
  ⟨hB.gb, hB.gm, hB.gs, hB.gl, hB.im, hB.hb, hB.he, hB.hk, hB.mv, hB.h0, hB.hi, h1, h2, hB.nt⟩
def adT (T : Nat → Nat → List Int) (n : Nat) (P : Nat → List Int) : Nat → Nat → List Int := fun t => if t = n then P else T t
theorem SB.add {g h : Nat → Int} {im : Int} {mv S : Nat → Nat → Int} {tn : Int} {tp : Nat → Int} {nt : Int} {T : Nat → Nat → List Int} (hB : SB g h im mv S tn tp nt T) (h6 : nt < 6) (P : Nat → List Int) : SB g h im mv S 0 tp (nt + 1) (adT T nt.toNat P) := by
  have hn := hB.nt
  have hl := hB.gl
  refine ⟨hB.gb, hB.gm, hB.gs, by omega, hB.im, fun z => ?_, hB.he, hB.hk, hB.mv, hB.h0, hB.hi, by omega, fun i hi => by omega, by omega⟩
  obtain ⟨a1, a2, a3, a4, a5, a6⟩ := hB.hb z
  exact ⟨a1, a2, a3, a4, a5, by omega⟩
theorem AI.add {w w' : ai_H} {g h : Nat → Int} {im : Int} {mv S : Nat → Nat → Int} {tn : Int} {tp : Nat → Int} {nt : Int} {T : Nat → Nat → List Int} (hA : AI w g h im mv S tn tp nt T) (hB : SB g h im mv S tn tp nt T) (h6 : nt < 6) {P : Nat → List Int} {len : Nat} (hs : ∀ i, i < mN w → mS w' i = mS w i) (hi : ∀ i k, i < mN w → ¬ (i = 1 ∧ k = 1) → ¬ (i = 5 ∧ k = 1) → mI w' i k = mI w i k) (hp : ∀ i k, i < mN w → ¬ (i = 6 ∧ k = nt.toNat) → mP w' i k = mP w i k) (k1 : mI w' 5 1 = jI (nt + 1)) (k2 : mI w' 1 1 = jI 0) (k3 : mN w' = mN w + 3) (k4 : TXa w' nt.toNat (mN w) (mN w + 1) (mN w + 2) len P) : AI w' g h im mv S 0 tp (nt + 1) (adT T nt.toNat P) := by
  have hn := hB.nt
  have hN := hA.mn
  have ag := hA.ag
  have AG' : AG w' := by
    have sh := ag._sh
    have e0 : (∀ s : Nat, s < 4 → mP w 33 s = some (36 + 2 * s) ∧ mS w (36 + 2 * s) = (1, 4) ∧ mP w (36 + 2 * s) 2 = some (37 + 2 * s) ∧ mS w (37 + 2 * s) = (2, 40)) ↔ True := iff_true_intro sh
    have e1 : (∀ s : Nat, s < 4 → mP w' 33 s = some (36 + 2 * s) ∧ mS w' (36 + 2 * s) = (1, 4) ∧ mP w' (36 + 2 * s) 2 = some (37 + 2 * s) ∧ mS w' (37 + 2 * s) = (2, 40)) ↔ True := iff_true_intro (fun s h => by
      rw [hp _ _ (by omega) (by omega), hs _ (by omega), hp _ _ (by omega) (by omega), hs _ (by omega)]
      exact sh s h)
    unfold AG at ag ⊢
    rw [e1]
    rw [e0] at ag
    simp (disch := omega) only [hs, hp]
    exact ag
  have lt5 : ∀ t : Nat, (t : Int) < nt → ∀ a, mP w 6 t = some a → a < mN w → True := fun _ _ _ _ _ => True.intro
  have poe : ∀ {p : Nat} {g : Nat → Int}, PO w p g → PO w' p g := by
    intro p g po
    have h1 := po.pg.lo
    have h2 := po.pg.hi
    obtain ⟨q1, q2, q3, q4⟩ := po
    have v : ∀ i k, p ≤ i → i ≤ p + 5 → vI w' i k = vI w i k := fun i k a b => by
      unfold vI
      rw [hi i k (by omega) (by omega) (by omega)]
    refine ⟨?_, q2, ?_, fun e he => ?_⟩
    · unfold PG at q1 ⊢
      simp (disch := omega) only [hs, hp]
      exact q1
    · simp (disch := omega) only [v]
      exact q3
    · have := q4 e he
      unfold PE at this ⊢
      simp (disch := omega) only [v]
      exact this
  have lw := hA.tx.l
  refine ⟨AG', poe hA.po, ?_, fun e he => ?_, ?_, fun z => poe (hA.ko z), fun z => ?_, fun z e he => ?_, fun k hk => ?_, fun k hk => ?_, fun k hk => ?_, fun k hk => ?_, fun k hk => ?_, fun k hk => ?_, fun s h1 => ?_, fun s h1 => ?_, fun s i h1 hj => ?_, k2, fun i hj => by omega, ⟨?_, fun t ht => ?_⟩, fun t ht a ha => ?_, ?_⟩
  · rw [hi _ _ (by omega) (by omega) (by omega)]; exact hA.pm
  · rw [hi _ _ (by omega) (by omega) (by omega)]; exact hA.ps e he
  · rw [hi _ _ (by omega) (by omega) (by omega)]; exact hA.ik
  · rw [hi _ _ (by omega) (by omega) (by omega)]; exact hA.km z
  · rw [hi _ _ (by omega) (by omega) (by omega)]; exact hA.ks z e he
  · rw [hi _ _ (by omega) (by omega) (by omega)]; exact hA.v0 k hk
  · rw [hi _ _ (by omega) (by omega) (by omega)]; exact hA.v1 k hk
  · rw [hi _ _ (by omega) (by omega) (by omega)]; exact hA.v2 k hk
  · rw [hi _ _ (by omega) (by omega) (by omega)]; exact hA.v3 k hk
  · rw [hi _ _ (by omega) (by omega) (by omega)]; exact hA.v4 k hk
  · rw [hi _ _ (by omega) (by omega) (by omega)]; exact hA.v5 k hk
  · rw [hi _ _ (by omega) (by omega) (by omega)]; exact hA.h0 s h1
  · rw [hi _ _ (by omega) (by omega) (by omega)]; exact hA.h1 s h1
  · rw [hi _ _ (by omega) (by omega) (by omega)]; exact hA.hi s i h1 hj
  · obtain ⟨l1, l2, l3, l4, l5, l6, l7⟩ := lw
    refine ⟨?_, ?_, ?_, ?_, ?_, ?_, by omega⟩
    · rw [hs _ (by omega)]; exact l1
    · rw [hp _ _ (by omega) (by omega)]; exact l2
    · rw [hp _ _ (by omega) (by omega)]; exact l3
    · rw [hs _ (by omega)]; exact l4
    · rw [hs _ (by omega)]; exact l5
    · unfold vI
      rw [k1, jt (by omega) (by omega)]
  · by_cases c : t = nt.toNat
    · subst c
      refine ⟨mN w, mN w + 1, mN w + 2, len, ?_⟩
      rw [show adT T nt.toNat P nt.toNat = P from if_pos rfl]
      exact k4
    · rw [show adT T nt.toNat P t = T t from if_neg c]
      obtain ⟨a, s, st, n, q1, q2, q3, q4, q5, q6, q7, q8⟩ := hA.tx.2 t (by omega)
      have l2 : a < mN w := mS_lt q2 (by decide)
      have l5 : s < mN w := mS_lt q5 (show ¬ (2 : Nat) = 0 by decide)
      have l6 : st < mN w := mS_lt q6 (by decide)
      have o := hA.tO t (by omega) a q1
      have o1 := o.1
      unfold okc at o1
      have vS : ∀ k, vI w' s k = vI w s k := fun k => by
        unfold vI
        rw [hi s k l5 (by omega) (by omega)]
      have vT : ∀ k, vI w' st k = vI w st k := fun k => by
        unfold vI
        rw [hi st k l6 (by omega) (by omega)]
      refine ⟨a, s, st, n, ?_, ?_, ?_, ?_, ?_, ?_, q7, fun p hp3 => ?_⟩
      · rw [hp _ _ (by omega) (by omega)]; exact q1
      · rw [hs _ l2]; exact q2
      · rw [hp _ _ l2 (by omega)]; exact q3
      · rw [hp _ _ l2 (by omega)]; exact q4
      · rw [hs _ l5]; exact q5
      · rw [hs _ l6]; exact q6
      · have := q8 p hp3
        unfold TXs at this ⊢
        simp only [vS, vT]
        exact this
  · by_cases c : t = nt.toNat
    · subst c
      rw [k4.1] at ha
      cases ha
      refine ⟨by unfold okc; omega, fun s z => ?_, fun s z => ?_⟩
      · rw [k4.2.2.1] at z
        cases z
        unfold okc
        omega
      · rw [k4.2.2.2.1] at z
        cases z
        unfold okc
        omega
    · rw [hp _ _ (by omega) (by omega)] at ha
      obtain ⟨a', s, st, n, q1, q2, q3, q4, q5, q6, q7, q8⟩ := hA.tx.2 t (by omega)
      have e : a' = a := by
        rw [q1] at ha
        cases ha
        rfl
      subst e
      have l2 : a' < mN w := mS_lt q2 (by decide)
      have o := hA.tO t (by omega) a' q1
      have o1 := o.1
      unfold okc at o1
      rw [hp _ _ l2 (by omega), hp _ _ l2 (by omega)]
      exact o
  · rw [k3]
    omega
