/-! printed by wip/gen/snd2.py: the instructions that read or write cells -/
section AISND2
variable {G : ai_G} {m : ai_M} {d : Nat} {p : Program} {l : Launch} {e : Env} {R : Room} {s : State} {mid : MethodId} {args : Array Value} {below : List Frame} {meth : Method} {c : Code} {H : Heap} {locs : List Loc} {Q : State → Prop} {len pc : Nat} {L : List (Option Value)} {st : List Value} {k : Nat × Nat} {w : ai_H} {c' : ai_C} {ls : Array Slot}
theorem ai_ftab {o ix ci f kind fin nst : Nat} (h : ai_look ai_fT o ix = some ((ci, f, kind), (fin, nst))) : (∀ w ∈ ai_fw ((o, ix), ((ci, f, kind), (fin, nst))), w ∈ ai_WS) ∧ ai_fok ((o, ix), ((ci, f, kind), (fin, nst))) = true :=
  ⟨ai_fT_in _ (ai_look_mem _ _ _ _ h), ai_fT_ok _ (ai_look_mem _ _ _ _ h)⟩
theorem ai_fcls {o ix ci f kind fin nst : Nat} (h : ai_fok ((o, ix), ((ci, f, kind), (fin, nst))) = true) (hk : kind < 5) : ci < 8 ∧ ai_cls ci ∧ (ai_fq ci f).2.2.2 = decide (fin ≠ 0) ∧ (fin = 0 ∨ nst ≠ 0 ∨ (ai_fq ci f).1 = ai_on o) := by
  unfold ai_fok at h
  rw [if_pos hk] at h
  simp only [Bool.and_eq_true, Bool.or_eq_true, decide_eq_true_eq, beq_iff_eq, bne_iff_ne] at h
  obtain ⟨⟨h1, h2⟩, h3⟩ := h
  refine ⟨h1, ai_cls_ok ci h1, h2, ?_⟩
  rcases h3 with (h3 | h3) | h3
  · exact Or.inl h3
  · exact Or.inr (Or.inl h3)
  · exact Or.inr (Or.inr h3)
theorem ai_J_obj {G : ai_G} {w : ai_H} {a ci : Nat} (h : mS w a = (1, ci)) (hN : mN w ≤ 1000000) : (ai_cw G w)[a]? = some (ai_io G a, .inr (ci, ai_fs G w a ci)) :=
  ai_cw_at (ai_lt1 (by rw [h]; exact Nat.one_ne_zero)) hN (ai_ce_obj h)
theorem ai_fs_msI {G : ai_G} {w : ai_H} {a ci f : Nat} {x : Int32} (hp : ai_isP ci f = false) (hf : f < ai_nf ci) : ai_fs G (msI w a f x) a ci = (ai_fs G w a ci).set f (.int x) := by
  apply List.ext_getElem?
  intro j
  rw [List.getElem?_set, ai_fs_len]
  by_cases hj : j < ai_nf ci
  · rw [ai_fs_get hj, ai_fs_get hj]
    by_cases h : f = j
    · subst h
      simp [hp, hf, mI_msI]
    · have h2 : ¬ (a = a ∧ j = f) := fun z => h z.2.symm
      rw [if_neg h, mP_msI, mI_msI, if_neg h2]
  · have h1 : (ai_fs G (msI w a f x) a ci)[j]? = none := List.getElem?_eq_none (by rw [ai_fs_len]; omega)
    have h2 : (ai_fs G w a ci)[j]? = none := List.getElem?_eq_none (by rw [ai_fs_len]; omega)
    rw [h1, h2, if_neg (by omega)]
theorem ai_fs_msP {G : ai_G} {w : ai_H} {a ci f : Nat} {x : Option Nat} (hp : ai_isP ci f = true) (hf : f < ai_nf ci) : ai_fs G (msP w a f x) a ci = (ai_fs G w a ci).set f (va_rf (x.map (ai_io G))) := by
  apply List.ext_getElem?
  intro j
  rw [List.getElem?_set, ai_fs_len]
  by_cases hj : j < ai_nf ci
  · rw [ai_fs_get hj, ai_fs_get hj]
    by_cases h : f = j
    · subst h
      simp [hp, hf, mP_msP]
    · have h2 : ¬ (a = a ∧ j = f) := fun z => h z.2.symm
      rw [if_neg h, mI_msP, mP_msP, if_neg h2]
  · have h1 : (ai_fs G (msP w a f x) a ci)[j]? = none := List.getElem?_eq_none (by rw [ai_fs_len]; omega)
    have h2 : (ai_fs G w a ci)[j]? = none := List.getElem?_eq_none (by rw [ai_fs_len]; omega)
    rw [h1, h2, if_neg (by omega)]
theorem ai_scr_msI {G : ai_G} {w : ai_H} {a f : Nat} {x : Int32} (ha : a < 1000000) (h : (∀ j, mI w 1000300 j = gX G j) ∧ mP w 1000300 0 = some (gL G)) : (∀ j, mI (msI w a f x) 1000300 j = gX G j) ∧ mP (msI w a f x) 1000300 0 = some (gL G) :=
  ⟨fun j => by rw [mI_msI, if_neg (fun z => by omega)]; exact h.1 j, h.2⟩
theorem ai_scr_msP {G : ai_G} {w : ai_H} {a f : Nat} {x : Option Nat} (ha : a < 1000000) (h : (∀ j, mI w 1000300 j = gX G j) ∧ mP w 1000300 0 = some (gL G)) : (∀ j, mI (msP w a f x) 1000300 j = gX G j) ∧ mP (msP w a f x) 1000300 0 = some (gL G) :=
  ⟨h.1, by rw [mP_msP, if_neg (fun z => by omega)]; exact h.2⟩
theorem ai_scr_msA {G : ai_G} {w : ai_H} {a : Nat} {f : Nat → Int32} (ha : a < 1000000) (h : (∀ j, mI w 1000300 j = gX G j) ∧ mP w 1000300 0 = some (gL G)) : (∀ j, mI (msA w a f) 1000300 j = gX G j) ∧ mP (msA w a f) 1000300 0 = some (gL G) :=
  ⟨fun j => by rw [mI_msA, if_neg (fun z => by omega)]; exact h.1 j, h.2⟩
theorem ai_scr_mnew {G : ai_G} {w : ai_H} {t : ai_S} (hN : mN w < 1000000) (h : (∀ j, mI w 1000300 j = gX G j) ∧ mP w 1000300 0 = some (gL G)) : (∀ j, mI (mnew w t) 1000300 j = gX G j) ∧ mP (mnew w t) 1000300 0 = some (gL G) :=
  ⟨fun j => by rw [mI_mnew, if_neg (fun z => by omega)]; exact h.1 j, by rw [mP_mnew, if_neg (fun z => by omega)]; exact h.2⟩
theorem ai_nf_le : ∀ ci, ci < 8 → ai_nf ci ≤ 45 := by decide +kernel
def ai_rty (t : FieldType) : Bool := match t with
  | .object _ => true
  | .array _ => true
  | _ => false
theorem ai_tys : ∀ ci, ci < 8 → ∀ k, k < 45 → (!ai_isP ci k || ai_rty (ai_ty ci k)) = true := by decide +kernel
theorem ai_tyP {ci k : Nat} (h : ai_isP ci k = true) (hc : ci < 8) (hk : k < ai_nf ci) : (∃ C, ai_ty ci k = .object C) ∨ ∃ t, ai_ty ci k = .array t := by
  have h1 := ai_tys ci hc k (Nat.lt_of_lt_of_le hk (ai_nf_le ci hc))
  rw [h] at h1
  cases ht : ai_ty ci k <;> first | exact Or.inl ⟨_, rfl⟩ | exact Or.inr ⟨_, rfl⟩ | (rw [ht] at h1; cases h1)
theorem ai_ref_fit {ci k : Nat} (h : ai_isP ci k = true) (hc : ci < 8) (hk : k < ai_nf ci) (r : Option Nat) : narrow (ai_ty ci k) (va_rf r) = va_rf r ∧ fits (ai_ty ci k) (va_rf r) = true := by
  have h1 : (∃ C, ai_ty ci k = .object C) ∨ ∃ t, ai_ty ci k = .array t := ai_tyP h hc hk
  rcases h1 with ⟨C, e⟩ | ⟨t, e⟩ <;> rw [e] <;> cases r <;> exact ⟨rfl, rfl⟩
theorem ai_io_K {a : Nat} (h : ai_isK a = true) : ai_io G a = gK G (a - 1000000) ∧ a - 1000000 < 13 ∧ ai_io G (a + 100) = gV G (a - 1000000) := by
  have ha := ai_isK_iff.mp h
  refine ⟨?_, by omega, ?_⟩
  · unfold ai_io
    rw [if_neg (show ¬ a < 1000000 by omega), if_pos (show a < 1000100 by omega)]
  · unfold ai_io
    rw [if_neg (show ¬ a + 100 < 1000000 by omega), if_neg (show ¬ a + 100 < 1000100 by omega), if_pos (show a + 100 < 1000200 by omega)]
    rw [show a + 100 - 1000100 = a - 1000000 by omega]
theorem ai_io_V {a : Nat} (h : ai_isV a = true) : ai_io G a = gV G (a - 1000100) ∧ a - 1000100 < 13 := by
  have ha := ai_isV_iff.mp h
  refine ⟨?_, by omega⟩
  unfold ai_io
  rw [if_neg (show ¬ a < 1000000 by omega), if_neg (show ¬ a < 1000100 by omega), if_pos (show a < 1000200 by omega)]
theorem ai_io_X : ai_io G 1000300 = gB G := by
  unfold ai_io
  rw [if_neg (by decide), if_neg (by decide), if_neg (by decide)]
theorem ai_gT_ok : ∀ e ∈ ai_gT, e.2 < 13 := by decide +kernel
theorem ai_tight {e2 : Nat} {cells slots : Nat} {g : JFrame} (h : H.size ≤ s.heap.size + e2) (kk : W p l e R s mid args below meth c H locs e2 slots Q g) : W p l e R s mid args below meth c H locs cells slots Q g :=
  fun T hT X => kk T hT { X with same := ⟨X.same.1, X.same.2.1, by show T.heap.size ≤ _; rw [hT]; exact h, X.same.2.2.2⟩ }
theorem ai_bound {cells slots : Nat} {g : JFrame} (kk : H.size ≤ s.heap.size + cells → W p l e R s mid args below meth c H locs cells slots Q g) : W p l e R s mid args below meth c H locs cells slots Q g :=
  fun T hT X => kk (by rw [← hT]; exact X.heapSize) T hT X
theorem ai_P_size {w : ai_H} {H1 : Heap} (h : va_P (gD G) vwCl (ai_cw G w) H1) (hN : 0 < mN w) : gN G + mN w ≤ H1.size := by
  have h1 := (h (mN w - 1) _ (ai_cw_get (by omega))).lt
  dsimp only at h1
  omega
/-- a store: no cell comes -/
theorem ai_store {w w' : ai_H} {k1 k2 : Nat} {g g' : JFrame} (hJ : ai_J G s w H locs) (hN : mN w' = mN w) (h0 : 0 < mN w) (hscr : (∀ j, mI w' 1000300 j = gX G j) ∧ mP w' 1000300 0 = some (gL G))
    (row : ∀ e2 : Nat, (∀ (H1 : Heap) (locs1 : List Loc), va_P (gD G) vwCl (ai_cw G w') H1 → va_S (gA G) s.heap H1 locs1 → W p l e R s mid args below meth c H1 locs1 e2 k2 Q g') → W p l e R s mid args below meth c H locs e2 k2 Q g)
    (kk : ∀ (H1 : Heap) (locs1 : List Loc), ai_J G s w' H1 locs1 → W p l e R s mid args below meth c H1 locs1 k1 k2 Q g') : W p l e R s mid args below meth c H locs k1 k2 Q g := by
  obtain ⟨hP, hS, hsz, -, hNN⟩ := hJ
  refine ai_bound fun hb0 => ?_
  refine ai_tight (e2 := H.size - s.heap.size) (by have := hS.1; omega) (row _ fun H1 locs1 p1 p2 => ?_)
  refine ai_bound fun hb1 => ?_
  refine W.widen (k := k1) (n := k2) (by omega) (Nat.le_refl _) (kk H1 locs1 ⟨p1, p2, ?_, hscr, by rw [hN]; exact hNN⟩)
  have h1 := ai_P_size p1 (by rw [hN]; exact h0)
  have h2 := hS.1
  omega
/-- a cell comes -/
theorem ai_alloc {w w' : ai_H} {k1 k2 k3 pc' : Nat} {rest : List Value} {g : JFrame} (hJ : ai_J G s w H locs) (hN : mN w' = mN w + 1) (hN6 : mN w < 1000000) (ho : ∀ j, j ≠ mN w → ai_ce G w' j = ai_ce G w j) (hscr : (∀ j, mI w' 1000300 j = gX G j) ∧ mP w' 1000300 0 = some (gL G)) (hR : k1 + 1 ≤ R.cells)
    (row : ∀ e2 : Nat, e2 + 1 ≤ R.cells → (∀ (q : Nat) (H1 : Heap), va_P (gD G) vwCl (ai_cw G w ++ [(q, ai_ce G w' (mN w))]) H1 → va_D (gA G) (ai_cw G w ++ [(q, ai_ce G w' (mN w))]) → va_S (gA G) s.heap H1 locs → W p l e R s mid args below meth c H1 locs (e2 + 1) k3 Q (F0 mid pc' ls (.ref q :: rest))) → W p l e R s mid args below meth c H locs e2 k2 Q g)
    (kk : ∀ (H1 : Heap), ai_J G s w' H1 locs → W p l e R s mid args below meth c H1 locs (k1 + 1) k3 Q (F0 mid pc' ls (.ref (ai_io G (mN w)) :: rest))) : W p l e R s mid args below meth c H locs k1 k2 Q g := by
  obtain ⟨hP, hS, hsz, -, hNN⟩ := hJ
  refine ai_bound fun hb0 => ?_
  refine ai_tight (e2 := H.size - s.heap.size) (by have := hS.1; omega) (row _ (by omega) fun q H1 p1 p2 p3 => ?_)
  refine ai_bound fun hb1 => ?_
  have hq : q = gN G + mN w := by
    have h1 := (p1 (mN w) (q, ai_ce G w' (mN w)) (by rw [List.getElem?_append_right (by rw [ai_cw_len]; exact Nat.le_refl _), ai_cw_len]; simp)).lt
    have h2 := p2.2 (mN w) (q, ai_ce G w' (mN w)) (by rw [List.getElem?_append_right (by rw [ai_cw_len]; exact Nat.le_refl _), ai_cw_len]; simp)
    dsimp only at h1 h2
    have h3 : gN G ≤ q := h2
    have h4 := hS.1
    by_cases h5 : q = gN G + mN w
    · exact h5
    · have h6 : q - gN G < mN w := by omega
      have h7 := p2.1 (q - gN G) (mN w) _ _ (by rw [List.getElem?_append_left (by rw [ai_cw_len]; exact h6)]; exact ai_cw_get h6) (by rw [List.getElem?_append_right (by rw [ai_cw_len]; exact Nat.le_refl _), ai_cw_len, Nat.sub_self]; rfl) (by dsimp only; omega)
      omega
  rw [hq] at p1
  rw [← ai_cw_new hN ho] at p1
  have hio : Value.ref q = Value.ref (ai_io G (mN w)) := by rw [ai_io_lt hN6, hq]
  rw [hio]
  refine W.widen (k := k1 + 1) (n := k3) (by omega) (Nat.le_refl _) (kk H1 ⟨p1, p3, ?_, hscr, by rw [hN]; exact hN6⟩)
  have h1 := ai_P_size p1 (by rw [hN]; exact Nat.succ_pos _)
  have h2 := hS.1
  omega
theorem ai_s_getfield {ix : Nat} (hX : ai_X G m d p R s mid args meth c) (hJ : ai_J G s w H locs) (hL : ai_Lr G ls m.1.2.2.1 L) (h : ai_stepI m (.getfield ix) pc L st k w = some c') (hd : decode m.1.2.1 pc = .ok (.getfield ix, 3)) (kk : ai_KK G m p l e R s mid args below meth c Q c') : W p l e R s mid args below meth c H locs k.1 k.2 Q (F0 mid pc ls (st.map (ai_vm G))) := by
  obtain ⟨hx, hb, hml, hown, hts, hnm, hE, hK, hfr, hlo, hmc, hmz, hn0⟩ := hX
  obtain ⟨hP, hS, hsz, hscr, hNN⟩ := hJ
  simp only [ai_stepI] at h
  split at h
  · rename_i ci f kind fn hlk
    obtain ⟨fin, nst⟩ := fn
    obtain ⟨hw1, hok⟩ := ai_ftab hlk
    split at h
    · rename_i a st
      split at h
      · rename_i hkd
        obtain ⟨-, hcls, -, -⟩ := ai_fcls hok hkd
        obtain ⟨hc1, hc2, hc3, hc4, hc5⟩ := hcls
        split at h
        · rename_i hsf
          obtain ⟨hsh, hfn⟩ := hsf
          have he := ai_J_obj (G := G) hsh hNN
          have hgo : ∀ v, (ai_fs G w a ci)[f]? = some v → W p l e R s mid args below meth c H locs k.1 k.2 Q (F0 mid (pc + 3) ls (v :: st.map (ai_vm G))) → W p l e R s mid args below meth c H locs k.1 k.2 Q (F0 mid pc ls ((Value.ref a :: st).map (ai_vm G))) := by
            intro v hv hW
            by_cases hz : nst = 0
            · have hl : Cond.fieldLink (ai_on (ai_ow m)) ix (ai_fq ci f).1 (ai_fq ci f).2.1 (ai_fq ci f).2.2.1 ∈ ai_WS := hw1 _ (by unfold ai_fw; rw [if_pos hkd, if_pos hz]; exact List.mem_cons_self)
              exact va_get (own := ai_on (ai_ow m)) (C := (ai_cl ci).1) (T := (ai_cl ci).2.1) (N := (ai_cl ci).2.2) hx hb hts (fun w hw => hc3 w (List.mem_cons_of_mem _ (List.mem_cons_of_mem _ hw))) hown hK hP a he hc1 f (by rw [← hc2]; exact hfn) (hts _ hl) (fun _ h9 => h9) hv hd hW
            · have hl : Cond.fieldLinkNest (ai_on (ai_ow m)) ix (ai_fq ci f).1 (ai_fq ci f).2.1 (ai_fq ci f).2.2.1 "Ambassadors" ∈ ai_WS := hw1 _ (by unfold ai_fw; rw [if_pos hkd, if_neg hz]; exact List.mem_cons_self)
              exact va_getN (own := ai_on (ai_ow m)) (C := (ai_cl ci).1) (T := (ai_cl ci).2.1) (N := (ai_cl ci).2.2) hx hb hts (fun w hw => hc3 w (List.mem_cons_of_mem _ (List.mem_cons_of_mem _ hw))) hown hK hP a he hc1 f (by rw [← hc2]; exact hfn) (hts _ hl) (fun _ h9 => h9) hv hd hW
          split at h
          · rename_i hp
            cases h
            refine hgo _ (by rw [ai_fs_get hfn, if_pos hp]) ?_
            rw [← ai_vm_rf]
            exact kk _ _ _ ⟨hP, hS, hsz, hscr, hNN⟩ hL
          · rename_i hp
            cases h
            exact hgo (.int (mI w a f)) (by rw [ai_fs_get hfn, if_neg hp]) (kk _ _ _ ⟨hP, hS, hsz, hscr, hNN⟩ hL)
        · cases h
      · rename_i hkd
        by_cases hak : ai_isK a = true
        · rw [if_pos hak] at h
          obtain ⟨hio, hi, hio2⟩ := ai_io_K (G := G) hak
          have hst := hE.1.1 (a - 1000000) hi
          split at h
          · rename_i h5
            cases h
            have hl : Cond.fieldLink (ai_on (ai_ow m)) ix "java/lang/String" "coder" "B" ∈ ai_WS := hw1 _ (by unfold ai_fw; rw [if_neg hkd, if_pos h5]; exact List.mem_cons_self)
            show W p l e R s mid args below meth c H locs k.1 k.2 Q (F0 mid pc ls (Value.ref (ai_io G a) :: st.map (ai_vm G)))
            rw [hio]
            exact vk_getf hx hb hst.2.1 hS hown (hts _ hl) (fun _ h9 => h9) hd (kk _ _ _ ⟨hP, hS, hsz, hscr, hNN⟩ hL)
          · rename_i h5
            split at h
            · rename_i h6
              cases h
              have hl : Cond.fieldLink (ai_on (ai_ow m)) ix "java/lang/String" "value" "[B" ∈ ai_WS := hw1 _ (by unfold ai_fw; rw [if_neg hkd, if_neg h5]; exact List.mem_cons_self)
              show W p l e R s mid args below meth c H locs k.1 k.2 Q (F0 mid pc ls (Value.ref (ai_io G a) :: st.map (ai_vm G)))
              rw [hio]
              refine vk_getf hx hb hst.2.2.1 hS hown (hts _ hl) (fun _ h9 => h9) hd ?_
              rw [← hio2]
              exact kk _ _ _ ⟨hP, hS, hsz, hscr, hNN⟩ hL
            · cases h
        · rw [if_neg hak] at h
          cases h
    · cases h
  · cases h
theorem ai_s_putfield {ix : Nat} (hX : ai_X G m d p R s mid args meth c) (hJ : ai_J G s w H locs) (hL : ai_Lr G ls m.1.2.2.1 L) (h : ai_stepI m (.putfield ix) pc L st k w = some c') (hd : decode m.1.2.1 pc = .ok (.putfield ix, 3)) (kk : ai_KK G m p l e R s mid args below meth c Q c') : W p l e R s mid args below meth c H locs k.1 k.2 Q (F0 mid pc ls (st.map (ai_vm G))) := by
  obtain ⟨hx, hb, hml, hown, hts, hnm, hE, hK, hfr, hlo, hmc, hmz, hn0⟩ := hX
  obtain ⟨hP, hS, hsz, hscr, hNN⟩ := hJ
  simp only [ai_stepI] at h
  split at h
  · rename_i ci f kind fin nst hlk
    obtain ⟨hw1, hok⟩ := ai_ftab hlk
    split at h
    · rename_i v a st
      split at h
      · rename_i hcond
        obtain ⟨hkd, hsh, hfn, hfin⟩ := hcond
        obtain ⟨hc8, hcls, hfq, hdec⟩ := ai_fcls hok hkd
        obtain ⟨hc1, hc2, hc3, hc4, hc5⟩ := hcls
        have he := ai_J_obj (G := G) hsh hNN
        have halt : a < mN w := ai_lt1 (by rw [hsh]; exact Nat.one_ne_zero)
        have hpos : 0 < mN w := Nat.lt_of_le_of_lt (Nat.zero_le a) halt
        have hJ0 : ai_J G s w H locs := ⟨hP, hS, hsz, hscr, hNN⟩
        have ha6 : a < 1000000 := Nat.lt_of_lt_of_le halt hNN
        have hgo : ∀ (e2 : Nat) (u : Value), narrow (ai_ty ci f) u = u → fits (ai_ty ci f) u = true → (∀ (H1 : Heap) (locs1 : List Loc), va_P (gD G) vwCl ((ai_cw G w).set a (ai_io G a, .inr (ci, (ai_fs G w a ci).set f u))) H1 → va_S (gA G) s.heap H1 locs1 → W p l e R s mid args below meth c H1 locs1 e2 k.2 Q (F0 mid (pc + 3) ls (st.map (ai_vm G)))) → W p l e R s mid args below meth c H locs e2 k.2 Q (F0 mid pc ls (u :: Value.ref (ai_io G a) :: st.map (ai_vm G))) := by
            intro e2 u hnar hfit hW
            have hkk : ∀ (H1 : Heap) (locs1 : List Loc), va_P (gD G) vwCl ((ai_cw G w).set a (ai_io G a, .inr (ci, (ai_fs G w a ci).set f u))) H1 → va_D (gA G) ((ai_cw G w).set a (ai_io G a, .inr (ci, (ai_fs G w a ci).set f u))) → va_S (gA G) s.heap H1 locs1 → W p l e R s mid args below meth c H1 locs1 e2 k.2 Q (F0 mid (pc + 3) ls (st.map (ai_vm G))) := fun H1 locs1 p1 _ p3 => hW H1 locs1 p1 p3
            by_cases hz : nst = 0
            · have hl : Cond.fieldLink (ai_on (ai_ow m)) ix (ai_fq ci f).1 (ai_fq ci f).2.1 (ai_fq ci f).2.2.1 ∈ ai_WS := hw1 _ (by unfold ai_fw; rw [if_pos hkd, if_pos hz]; exact List.mem_cons_self)
              by_cases hfz : fin = 0
              · exact va_put (own := ai_on (ai_ow m)) (C := (ai_cl ci).1) (T := (ai_cl ci).2.1) (N := (ai_cl ci).2.2) hx hb hts (fun w hw => hc3 w (List.mem_cons_of_mem _ (List.mem_cons_of_mem _ hw))) (ai_ty ci) hc4 hc5 hown hK hP ai_cw_D hS a he hc1 f (by rw [← hc2]; exact hfn) (hts _ hl) (fun _ h9 => h9) (by show (ai_fq ci f).2.2.2 = false; rw [hfq]; simp [hfz]) (hc4 f (by rw [← hc2]; exact hfn)) hnar hfit (by rw [ai_fs_len]; exact hfn) hd hkk
              · have hin := (hfin.resolve_left hfz).1
                have hdc : (ai_fq ci f).1 = ai_on (ai_ow m) := by
                  rcases hdec with q | q | q
                  · exact absurd q hfz
                  · exact absurd hz q
                  · exact q
                exact va_putF (own := ai_on (ai_ow m)) (C := (ai_cl ci).1) (T := (ai_cl ci).2.1) (N := (ai_cl ci).2.2) hx hb hts (fun w hw => hc3 w (List.mem_cons_of_mem _ (List.mem_cons_of_mem _ hw))) (ai_ty ci) hc4 hc5 hown hK hP ai_cw_D hS a he hc1 f (by rw [← hc2]; exact hfn) (hts _ hl) (fun _ h9 => h9) (by show (ai_fq ci f).2.2.2 = true; rw [hfq]; simp [hfz]) (hnm hin) hdc (hc4 f (by rw [← hc2]; exact hfn)) hnar hfit (by rw [ai_fs_len]; exact hfn) hd hkk
            · have hl : Cond.fieldLinkNest (ai_on (ai_ow m)) ix (ai_fq ci f).1 (ai_fq ci f).2.1 (ai_fq ci f).2.2.1 "Ambassadors" ∈ ai_WS := hw1 _ (by unfold ai_fw; rw [if_pos hkd, if_neg hz]; exact List.mem_cons_self)
              have hfz : fin = 0 := hfin.elim id (fun q => absurd q.2 hz)
              exact va_putN (own := ai_on (ai_ow m)) (C := (ai_cl ci).1) (T := (ai_cl ci).2.1) (N := (ai_cl ci).2.2) hx hb hts (fun w hw => hc3 w (List.mem_cons_of_mem _ (List.mem_cons_of_mem _ hw))) (ai_ty ci) hc4 hc5 hown hK hP ai_cw_D hS a he hc1 f (by rw [← hc2]; exact hfn) (hts _ hl) (fun _ h9 => h9) (by show (ai_fq ci f).2.2.2 = false; rw [hfq]; simp [hfz]) (hc4 f (by rw [← hc2]; exact hfn)) hnar hfit (by rw [ai_fs_len]; exact hfn) hd hkk
        have hset : ∀ w' : ai_H, mN w' = mN w → (∀ j, j ≠ a → ai_ce G w' j = ai_ce G w j) → mS w' a = mS w a → ∀ u, ai_fs G w' a ci = (ai_fs G w a ci).set f u → (ai_cw G w).set a (ai_io G a, .inr (ci, (ai_fs G w a ci).set f u)) = ai_cw G w' := by
          intro w' hN' ho hs' u hu
          rw [ai_cw_set halt hN' ho, ai_ce_obj (by rw [hs']; exact hsh), hu, ai_io_lt ha6]
        split at h
        · rename_i x
          split at h
          · rename_i hcx
            obtain ⟨hp, hnar, hfit⟩ := hcx
            cases h
            refine ai_store (w' := msI w a f x) hJ0 rfl hpos (ai_scr_msI ha6 hscr) (fun e2 hW => hgo e2 (.int x) hnar hfit fun H1 locs1 p1 p2 => hW H1 locs1 ?_ p2) (fun H1 locs1 hJ1 => kk _ _ _ hJ1 hL)
            rw [hset (msI w a f x) rfl (fun j hj => ai_ce_msI hj) rfl (.int x) (ai_fs_msI hp hfn)] at p1
            exact p1
          · cases h
        · split at h
          · rename_i hp
            cases h
            obtain ⟨hnar, hfit⟩ := ai_ref_fit hp hc8 hfn none
            refine ai_store (w' := msP w a f none) hJ0 rfl hpos (ai_scr_msP ha6 hscr) (fun e2 hW => hgo e2 .null hnar hfit fun H1 locs1 p1 p2 => hW H1 locs1 ?_ p2) (fun H1 locs1 hJ1 => kk _ _ _ hJ1 hL)
            rw [hset (msP w a f none) rfl (fun j hj => ai_ce_msP hj) rfl .null (ai_fs_msP hp hfn)] at p1
            exact p1
          · cases h
        · rename_i r
          split at h
          · rename_i hp
            cases h
            obtain ⟨hnar, hfit⟩ := ai_ref_fit hp hc8 hfn (some (ai_io G r))
            refine ai_store (w' := msP w a f (some r)) hJ0 rfl hpos (ai_scr_msP ha6 hscr) (fun e2 hW => hgo e2 (.ref (ai_io G r)) hnar hfit fun H1 locs1 p1 p2 => hW H1 locs1 ?_ p2) (fun H1 locs1 hJ1 => kk _ _ _ hJ1 hL)
            rw [hset (msP w a f (some r)) rfl (fun j hj => ai_ce_msP hj) rfl (.ref (ai_io G r)) (ai_fs_msP hp hfn)] at p1
            exact p1
          · cases h
        · cases h
      · cases h
    · cases h
  · cases h
theorem ai_lk {α : Type} {t : List ((Nat × Nat) × α)} {f : (Nat × Nat) × α → List Cond} (hin : ∀ e ∈ t, ∀ w ∈ f e, w ∈ ai_WS) {o ix : Nat} {v : α} (h : ai_look t o ix = some v) : ∀ w ∈ f ((o, ix), v), w ∈ ai_WS := hin _ (ai_look_mem _ _ _ _ h)
theorem ai_s_getstatic {ix : Nat} (hX : ai_X G m d p R s mid args meth c) (hJ : ai_J G s w H locs) (hL : ai_Lr G ls m.1.2.2.1 L) (h : ai_stepI m (.getstatic ix) pc L st k w = some c') (hd : decode m.1.2.1 pc = .ok (.getstatic ix, 3)) (kk : ai_KK G m p l e R s mid args below meth c Q c') : W p l e R s mid args below meth c H locs k.1 k.2 Q (F0 mid pc ls (st.map (ai_vm G))) := by
  obtain ⟨hx, hb, hml, hown, hts, hnm, hE, hK, hfr, hlo, hmc, hmz, hn0⟩ := hX
  obtain ⟨hP, hS, hsz, hscr, hNN⟩ := hJ
  simp only [ai_stepI] at h
  split at h
  · rename_i hlk
    cases h
    have hl := ai_lk ai_sT_in hlk
    exact va_gets hx hb hE.2.2.1 hS hown (hts _ (hl (Cond.fieldLink (ai_on (ai_ow m)) ix "java/lang/String" "COMPACT_STRINGS" "Z") (by unfold ai_sw; rw [if_pos rfl]; exact List.mem_cons_self))) (fun _ h9 => h9) hd (kk _ _ _ ⟨hP, hS, hsz, hscr, hNN⟩ hL)
  · rename_i hlk
    cases h
    have hl := ai_lk ai_sT_in hlk
    refine va_gets hx hb hE.2.2.2.1 hS hown (hts _ (hl (Cond.fieldLink (ai_on (ai_ow m)) ix "jdk/internal/util/Preconditions" "SIOOBE_FORMATTER" "Ljava/util/function/BiFunction;") (by unfold ai_sw; rw [if_neg Nat.one_ne_zero]; exact List.mem_cons_self))) (fun _ h9 => h9) hd (kk _ _ _ ⟨hP, hS, hsz, hscr, hNN⟩ hL)
  · cases h
theorem ai_s_iaload  (hX : ai_X G m d p R s mid args meth c) (hJ : ai_J G s w H locs) (hL : ai_Lr G ls m.1.2.2.1 L) (h : ai_stepI m (.iaload) pc L st k w = some c') (hd : decode m.1.2.1 pc = .ok (.iaload, 1)) (kk : ai_KK G m p l e R s mid args below meth c Q c') : W p l e R s mid args below meth c H locs k.1 k.2 Q (F0 mid pc ls (st.map (ai_vm G))) := by
  obtain ⟨hx, hb, hml, hown, hts, hnm, hE, hK, hfr, hlo, hmc, hmz, hn0⟩ := hX
  obtain ⟨hP, hS, hsz, hscr, hNN⟩ := hJ
  simp only [ai_stepI] at h
  split at h
  · rename_i j a st
    split at h
    · rename_i hc
      cases h
      by_cases h2 : (mS w a).1 = 2 ∧ ai_ib j (mS w a).2 = true
      · have halt : a < mN w := ai_lt1 (by rw [h2.1]; decide)
        exact va_iald hx hb hK hP a 0 (ai_cw_at halt hNN (ai_ce_2 h2.1)) rfl (ai_ib_iff.mp h2.2) hd (kk _ _ _ ⟨hP, hS, hsz, hscr, hNN⟩ hL)
      · obtain ⟨h3, h4⟩ := hc.resolve_left h2
        have h5 := ai_isX_iff.mp h3
        subst h5
        have hb' : ¬ gA G (gB G) := Nat.not_le.mpr hE.2.2.2.2.2
        have hin : vp_in j (gL G) := by
          have h6 := ai_ib_iff.mp h4
          unfold ai_sl at h6
          rw [hscr.2] at h6
          exact h6
        show W p l e R s mid args below meth c H locs k.1 k.2 Q (F0 mid pc ls (.int j :: .ref (ai_io G 1000300) :: st.map (ai_vm G)))
        rw [ai_io_X]
        refine va_sld hx hb hE.2.2.2.2.1 (Nat.lt_of_lt_of_le hE.2.2.2.2.2 hn0) hb' hS hin hd ?_
        rw [← hscr.1]
        exact kk _ _ _ ⟨hP, hS, hsz, hscr, hNN⟩ hL
    · cases h
  · cases h
theorem ai_s_baload  (hX : ai_X G m d p R s mid args meth c) (hJ : ai_J G s w H locs) (hL : ai_Lr G ls m.1.2.2.1 L) (h : ai_stepI m (.baload) pc L st k w = some c') (hd : decode m.1.2.1 pc = .ok (.baload, 1)) (kk : ai_KK G m p l e R s mid args below meth c Q c') : W p l e R s mid args below meth c H locs k.1 k.2 Q (F0 mid pc ls (st.map (ai_vm G))) := by
  obtain ⟨hx, hb, hml, hown, hts, hnm, hE, hK, hfr, hlo, hmc, hmz, hn0⟩ := hX
  obtain ⟨hP, hS, hsz, hscr, hNN⟩ := hJ
  simp only [ai_stepI] at h
  split at h
  · rename_i j a st
    by_cases h2 : (mS w a).1 = 3 ∧ ai_ib j (mS w a).2 = true
    · rw [if_pos h2] at h
      cases h
      have halt : a < mN w := ai_lt1 (by rw [h2.1]; decide)
      exact va_zald hx hb hK hP a 1 (ai_cw_at halt hNN (ai_ce_3 h2.1)) rfl (ai_ib_iff.mp h2.2) hd (kk _ _ _ ⟨hP, hS, hsz, hscr, hNN⟩ hL)
    · rw [if_neg h2] at h
      by_cases h3 : ai_isV a = true ∧ ai_ib j (ai_len.getD (a - 1000100) 0) = true
      · rw [if_pos h3] at h
        cases h
        obtain ⟨hio, hi⟩ := ai_io_V (G := G) h3.1
        show W p l e R s mid args below meth c H locs k.1 k.2 Q (F0 mid pc ls (.int j :: .ref (ai_io G a) :: st.map (ai_vm G)))
        rw [hio]
        exact va_tb hx hb (hE.1.1 _ hi).2.2.2 hS (ai_ib_iff.mp h3.2) rfl hd (kk _ _ _ ⟨hP, hS, hsz, hscr, hNN⟩ hL)
      · rw [if_neg h3] at h
        cases h
  · cases h
theorem ai_s_aaload  (hX : ai_X G m d p R s mid args meth c) (hJ : ai_J G s w H locs) (hL : ai_Lr G ls m.1.2.2.1 L) (h : ai_stepI m (.aaload) pc L st k w = some c') (hd : decode m.1.2.1 pc = .ok (.aaload, 1)) (kk : ai_KK G m p l e R s mid args below meth c Q c') : W p l e R s mid args below meth c H locs k.1 k.2 Q (F0 mid pc ls (st.map (ai_vm G))) := by
  obtain ⟨hx, hb, hml, hown, hts, hnm, hE, hK, hfr, hlo, hmc, hmz, hn0⟩ := hX
  obtain ⟨hP, hS, hsz, hscr, hNN⟩ := hJ
  simp only [ai_stepI] at h
  split at h
  · rename_i j a st
    split at h
    · rename_i hc
      cases h
      obtain ⟨h2, h3⟩ := hc
      have halt : a < mN w := ai_lt1 (by rcases h2 with h2 | h2 <;> rw [h2] <;> decide)
      rcases h2 with h2 | h2
      · refine va_aldq hx hb hK hP a 2 (ai_cw_at halt hNN (ai_ce_4 h2)) rfl (ai_ib_iff.mp h3) hd ?_
        rw [← ai_vm_rf]
        exact kk _ _ _ ⟨hP, hS, hsz, hscr, hNN⟩ hL
      · refine va_aldq hx hb hK hP a 3 (ai_cw_at halt hNN (ai_ce_5 h2)) rfl (ai_ib_iff.mp h3) hd ?_
        rw [← ai_vm_rf]
        exact kk _ _ _ ⟨hP, hS, hsz, hscr, hNN⟩ hL
    · cases h
  · cases h
theorem ai_upd_msI {w : ai_H} {a j : Nat} {x : Int32} : mI (msI w a j x) a = upd (mI w a) j x := by
  funext q
  rw [mI_msI]
  unfold upd
  by_cases h : q = j
  · rw [if_pos ⟨rfl, h⟩, if_pos h]
  · have h2 : ¬ (a = a ∧ q = j) := fun z => h z.2
    rw [if_neg h2, if_neg h]
theorem ai_upd_msP {G : ai_G} {w : ai_H} {a j r : Nat} : (fun i => (mP (msP w a j (some r)) a i).map (ai_io G)) = va_up (fun i => (mP w a i).map (ai_io G)) j (some (ai_io G r)) := by
  funext q
  rw [mP_msP]
  unfold va_up
  by_cases h : q = j
  · rw [if_pos ⟨rfl, h⟩, if_pos h]
    rfl
  · have h2 : ¬ (a = a ∧ q = j) := fun z => h z.2
    rw [if_neg h2, if_neg h]
theorem ai_s_iastore  (hX : ai_X G m d p R s mid args meth c) (hJ : ai_J G s w H locs) (hL : ai_Lr G ls m.1.2.2.1 L) (h : ai_stepI m (.iastore) pc L st k w = some c') (hd : decode m.1.2.1 pc = .ok (.iastore, 1)) (kk : ai_KK G m p l e R s mid args below meth c Q c') : W p l e R s mid args below meth c H locs k.1 k.2 Q (F0 mid pc ls (st.map (ai_vm G))) := by
  obtain ⟨hx, hb, hml, hown, hts, hnm, hE, hK, hfr, hlo, hmc, hmz, hn0⟩ := hX
  obtain ⟨hP, hS, hsz, hscr, hNN⟩ := hJ
  simp only [ai_stepI] at h
  split at h
  · rename_i x j a st
    split at h
    · rename_i hc
      cases h
      obtain ⟨h2, h3⟩ := hc
      have halt : a < mN w := ai_lt1 (by rw [h2]; decide)
      refine ai_store (w' := msI w a j.toNatClampNeg x) ⟨hP, hS, hsz, hscr, hNN⟩ rfl (Nat.lt_of_le_of_lt (Nat.zero_le a) halt) (ai_scr_msI (Nat.lt_of_lt_of_le halt hNN) hscr) (fun e2 hW => va_iast hx hb hK hP ai_cw_D hS a 0 (ai_cw_at halt hNN (ai_ce_2 h2)) rfl (ai_ib_iff.mp h3) hd fun H1 locs1 p1 _ p2 => hW H1 locs1 ?_ p2) (fun H1 locs1 hJ1 => kk _ _ _ hJ1 hL)
      rw [ai_cw_set (G := G) (w := w) (w' := msI w a j.toNatClampNeg x) (i := a) halt rfl (fun j hj => ai_ce_msI hj), ai_ce_2 (by rw [mS_msI]; exact h2), ai_upd_msI, ← ai_io_lt (Nat.lt_of_lt_of_le halt hNN)]
      exact p1
    · cases h
  · cases h
theorem ai_s_bastore  (hX : ai_X G m d p R s mid args meth c) (hJ : ai_J G s w H locs) (hL : ai_Lr G ls m.1.2.2.1 L) (h : ai_stepI m (.bastore) pc L st k w = some c') (hd : decode m.1.2.1 pc = .ok (.bastore, 1)) (kk : ai_KK G m p l e R s mid args below meth c Q c') : W p l e R s mid args below meth c H locs k.1 k.2 Q (F0 mid pc ls (st.map (ai_vm G))) := by
  obtain ⟨hx, hb, hml, hown, hts, hnm, hE, hK, hfr, hlo, hmc, hmz, hn0⟩ := hX
  obtain ⟨hP, hS, hsz, hscr, hNN⟩ := hJ
  simp only [ai_stepI] at h
  split at h
  · rename_i x j a st
    split at h
    · rename_i hc
      cases h
      obtain ⟨h2, h3⟩ := hc
      have halt : a < mN w := ai_lt1 (by rw [h2]; decide)
      refine ai_store (w' := msI w a j.toNatClampNeg (vp_nar .boolean x)) ⟨hP, hS, hsz, hscr, hNN⟩ rfl (Nat.lt_of_le_of_lt (Nat.zero_le a) halt) (ai_scr_msI (Nat.lt_of_lt_of_le halt hNN) hscr) (fun e2 hW => va_zast hx hb hK hP ai_cw_D hS a 1 (ai_cw_at halt hNN (ai_ce_3 h2)) rfl (ai_ib_iff.mp h3) hd fun H1 locs1 p1 _ p2 => hW H1 locs1 ?_ p2) (fun H1 locs1 hJ1 => kk _ _ _ hJ1 hL)
      rw [ai_cw_set (G := G) (w := w) (w' := msI w a j.toNatClampNeg (vp_nar .boolean x)) (i := a) halt rfl (fun j hj => ai_ce_msI hj), ai_ce_3 (by rw [mS_msI]; exact h2), ai_upd_msI, ← ai_io_lt (Nat.lt_of_lt_of_le halt hNN)]
      exact p1
    · cases h
  · cases h
theorem ai_s_aastore  (hX : ai_X G m d p R s mid args meth c) (hJ : ai_J G s w H locs) (hL : ai_Lr G ls m.1.2.2.1 L) (h : ai_stepI m (.aastore) pc L st k w = some c') (hd : decode m.1.2.1 pc = .ok (.aastore, 1)) (kk : ai_KK G m p l e R s mid args below meth c Q c') : W p l e R s mid args below meth c H locs k.1 k.2 Q (F0 mid pc ls (st.map (ai_vm G))) := by
  obtain ⟨hx, hb, hml, hown, hts, hnm, hE, hK, hfr, hlo, hmc, hmz, hn0⟩ := hX
  obtain ⟨hP, hS, hsz, hscr, hNN⟩ := hJ
  simp only [ai_stepI] at h
  split at h
  · rename_i r j a st
    split at h
    · rename_i hc
      cases h
      obtain ⟨h2, h3⟩ := hc
      have halt : a < mN w := ai_lt1 (by rcases h2 with h2 | h2 <;> rw [h2.1] <;> decide)
      have hJ0 : ai_J G s w H locs := ⟨hP, hS, hsz, hscr, hNN⟩
      have hpos : 0 < mN w := Nat.lt_of_le_of_lt (Nat.zero_le a) halt
      have ha6 : a < 1000000 := Nat.lt_of_lt_of_le halt hNN
      rcases h2 with ⟨h2, h4⟩ | ⟨h2, h4⟩
      · refine ai_store (w' := msP w a j.toNatClampNeg (some r)) hJ0 rfl hpos (ai_scr_msP ha6 hscr) (fun e2 hW => va_astq (r := ai_cl 5) hx hb hK hP ai_cw_D hS a 2 r 5 (ai_cw_at halt hNN (ai_ce_4 h2)) rfl (ai_J_obj h4 hNN) rfl (ai_ib_iff.mp h3) hd fun H1 locs1 p1 _ p2 => hW H1 locs1 ?_ p2) (fun H1 locs1 hJ1 => kk _ _ _ hJ1 hL)
        rw [ai_cw_set (G := G) (w := w) (w' := msP w a j.toNatClampNeg (some r)) (i := a) halt rfl (fun j hj => ai_ce_msP hj), ai_ce_4 (by rw [mS_msP]; exact h2), ai_upd_msP, ← ai_io_lt ha6]
        exact p1
      · refine ai_store (w' := msP w a j.toNatClampNeg (some r)) hJ0 rfl hpos (ai_scr_msP ha6 hscr) (fun e2 hW => va_astq (r := ai_cl 4) hx hb hK hP ai_cw_D hS a 3 r 4 (ai_cw_at halt hNN (ai_ce_5 h2)) rfl (ai_J_obj h4 hNN) rfl (ai_ib_iff.mp h3) hd fun H1 locs1 p1 _ p2 => hW H1 locs1 ?_ p2) (fun H1 locs1 hJ1 => kk _ _ _ hJ1 hL)
        rw [ai_cw_set (G := G) (w := w) (w' := msP w a j.toNatClampNeg (some r)) (i := a) halt rfl (fun j hj => ai_ce_msP hj), ai_ce_5 (by rw [mS_msP]; exact h2), ai_upd_msP, ← ai_io_lt ha6]
        exact p1
    · cases h
  · cases h
theorem ai_s_arraylength  (hX : ai_X G m d p R s mid args meth c) (hJ : ai_J G s w H locs) (hL : ai_Lr G ls m.1.2.2.1 L) (h : ai_stepI m (.arraylength) pc L st k w = some c') (hd : decode m.1.2.1 pc = .ok (.arraylength, 1)) (kk : ai_KK G m p l e R s mid args below meth c Q c') : W p l e R s mid args below meth c H locs k.1 k.2 Q (F0 mid pc ls (st.map (ai_vm G))) := by
  obtain ⟨hx, hb, hml, hown, hts, hnm, hE, hK, hfr, hlo, hmc, hmz, hn0⟩ := hX
  obtain ⟨hP, hS, hsz, hscr, hNN⟩ := hJ
  simp only [ai_stepI] at h
  split at h
  · rename_i a st
    by_cases h2 : 2 ≤ (mS w a).1 ∧ (mS w a).1 ≤ 5
    · rw [if_pos h2] at h
      cases h
      have halt : a < mN w := ai_lt1 (by omega)
      have h3 : (mS w a).1 = 2 ∨ (mS w a).1 = 3 ∨ (mS w a).1 = 4 ∨ (mS w a).1 = 5 := by omega
      rcases h3 with h3 | h3 | h3 | h3
      · exact va_alen hx hb hK hP a 0 (ai_cw_at halt hNN (ai_ce_2 h3)) rfl rfl hd (kk _ _ _ ⟨hP, hS, hsz, hscr, hNN⟩ hL)
      · exact va_alen hx hb hK hP a 1 (ai_cw_at halt hNN (ai_ce_3 h3)) rfl rfl hd (kk _ _ _ ⟨hP, hS, hsz, hscr, hNN⟩ hL)
      · exact va_alen hx hb hK hP a 2 (ai_cw_at halt hNN (ai_ce_4 h3)) rfl rfl hd (kk _ _ _ ⟨hP, hS, hsz, hscr, hNN⟩ hL)
      · exact va_alen hx hb hK hP a 3 (ai_cw_at halt hNN (ai_ce_5 h3)) rfl rfl hd (kk _ _ _ ⟨hP, hS, hsz, hscr, hNN⟩ hL)
    · rw [if_neg h2] at h
      by_cases h3 : ai_isV a = true
      · rw [if_pos h3] at h
        cases h
        obtain ⟨hio, hi⟩ := ai_io_V (G := G) h3
        show W p l e R s mid args below meth c H locs k.1 k.2 Q (F0 mid pc ls (.ref (ai_io G a) :: st.map (ai_vm G)))
        rw [hio]
        exact va_tlen hx hb (hE.1.1 _ hi).2.2.2 hS rfl hd (kk _ _ _ ⟨hP, hS, hsz, hscr, hNN⟩ hL)
      · rw [if_neg h3] at h
        by_cases h4 : ai_isX a = true
        · rw [if_pos h4] at h
          cases h
          have h5 := ai_isX_iff.mp h4
          subst h5
          show W p l e R s mid args below meth c H locs k.1 k.2 Q (F0 mid pc ls (.ref (ai_io G 1000300) :: st.map (ai_vm G)))
          rw [ai_io_X]
          refine va_slen hx hb hE.2.2.2.2.1 (Nat.lt_of_lt_of_le hE.2.2.2.2.2 hn0) (Nat.not_le.mpr hE.2.2.2.2.2) hS hd ?_
          have h6 : ai_sl w = gL G := by
            unfold ai_sl
            rw [hscr.2]
            rfl
          rw [← h6]
          exact kk _ _ _ ⟨hP, hS, hsz, hscr, hNN⟩ hL
        · rw [if_neg h4] at h
          cases h
  · cases h
theorem ai_ce_new {G : ai_G} {w : ai_H} {n : Nat} {t : Nat} (cA : ClassId) (e : va_E) (h : ai_ce G (mnew w (t, n)) (mN w) = e) : ai_ce G (mnew w (t, n)) (mN w) = e := h
theorem ai_mS_new {w : ai_H} {t : ai_S} : mS (mnew w t) (mN w) = t := by rw [mS_mnew, if_pos rfl]
theorem ai_mI_new {w : ai_H} {t : ai_S} : mI (mnew w t) (mN w) = fun _ => 0 := by
  funext q
  rw [mI_mnew, if_pos rfl]
theorem ai_mP_new {w : ai_H} {t : ai_S} (q : Nat) : mP (mnew w t) (mN w) q = none := by rw [mP_mnew, if_pos rfl]
theorem ai_s_newarray {t : ArrayType} (hX : ai_X G m d p R s mid args meth c) (hJ : ai_J G s w H locs) (hL : ai_Lr G ls m.1.2.2.1 L) (h : ai_stepI m (.newarray t) pc L st k w = some c') (hd : decode m.1.2.1 pc = .ok (.newarray t, 2)) (kk : ai_KK G m p l e R s mid args below meth c Q c') : W p l e R s mid args below meth c H locs k.1 k.2 Q (F0 mid pc ls (st.map (ai_vm G))) := by
  obtain ⟨hx, hb, hml, hown, hts, hnm, hE, hK, hfr, hlo, hmc, hmz, hn0⟩ := hX
  obtain ⟨hP, hS, hsz, hscr, hNN⟩ := hJ
  simp only [ai_stepI] at h
  split at h
  · rename_i n st
    split at h
    · rename_i hc
      obtain ⟨c1, c2, c3, c4, c5⟩ := hc
      have hJ0 : ai_J G s w H locs := ⟨hP, hS, hsz, hscr, hNN⟩
      have hA : ∀ q, s.heap.size ≤ q → gA G q := fun q hq => Nat.le_trans hn0 hq
      split at h
      · cases h
        refine ai_alloc (w' := mnew w (2, n.toNatClampNeg)) hJ0 rfl c5 (fun j hj => ai_ce_mnew hj) (ai_scr_mnew c5 hscr) (Nat.le_trans c3 hmc) (fun e2 he2 hW => ?_) (fun H1 hJ1 => kk _ _ _ hJ1 hL)
        refine va_newa (atype := .int) (ty := .int) (a0 := (n.toNatClampNeg, .inl (fun _ => 0))) hx hb (hts _ (ai_W4_in _ (List.mem_of_getElem? (i := 10) rfl))) rfl hK hP ai_cw_D hS hA (fun _ => rfl) c1 rfl (by simp [componentBytes]; omega) he2 (Nat.le_trans c4 hmz) hd fun q cA H1 p1 p2 p3 p4 => ?_
        have hcA : cA = gC G 0 := by
          have h1 := (p1.2 4 _ rfl).2
          have h2 := (hK.2 0 _ rfl).2
          exact Option.some.inj (h1.symm.trans h2)
        subst hcA
        have he : ai_ce G (mnew w (2, n.toNatClampNeg)) (mN w) = .inl (gC G 0, n.toNatClampNeg, .inl (fun _ => 0)) := by
          rw [ai_ce_2 (by rw [ai_mS_new]), ai_mS_new, ai_mI_new]
        exact hW q H1 (by rw [he]; exact p2) (by rw [he]; exact p3) p4
      · cases h
        refine ai_alloc (w' := mnew w (3, n.toNatClampNeg)) hJ0 rfl c5 (fun j hj => ai_ce_mnew hj) (ai_scr_mnew c5 hscr) (Nat.le_trans c3 hmc) (fun e2 he2 hW => ?_) (fun H1 hJ1 => kk _ _ _ hJ1 hL)
        refine va_newa (atype := .boolean) (ty := .boolean) (a0 := (n.toNatClampNeg, .inl (fun _ => 0))) hx hb (hts _ (ai_W4_in _ (List.mem_of_getElem? (i := 11) rfl))) rfl hK hP ai_cw_D hS hA (fun _ => rfl) c1 rfl (by simp [componentBytes]; omega) he2 (Nat.le_trans c4 hmz) hd fun q cA H1 p1 p2 p3 p4 => ?_
        have hcA : cA = gC G 1 := by
          have h1 := (p1.2 4 _ rfl).2
          have h2 := (hK.2 1 _ rfl).2
          exact Option.some.inj (h1.symm.trans h2)
        subst hcA
        have he : ai_ce G (mnew w (3, n.toNatClampNeg)) (mN w) = .inl (gC G 1, n.toNatClampNeg, .inl (fun _ => 0)) := by
          rw [ai_ce_3 (by rw [ai_mS_new]), ai_mS_new, ai_mI_new]
        exact hW q H1 (by rw [he]; exact p2) (by rw [he]; exact p3) p4
      · cases h
    · cases h
  · cases h
theorem ai_s_anewarray {ix : Nat} (hX : ai_X G m d p R s mid args meth c) (hJ : ai_J G s w H locs) (hL : ai_Lr G ls m.1.2.2.1 L) (h : ai_stepI m (.anewarray ix) pc L st k w = some c') (hd : decode m.1.2.1 pc = .ok (.anewarray ix, 3)) (kk : ai_KK G m p l e R s mid args below meth c Q c') : W p l e R s mid args below meth c H locs k.1 k.2 Q (F0 mid pc ls (st.map (ai_vm G))) := by
  obtain ⟨hx, hb, hml, hown, hts, hnm, hE, hK, hfr, hlo, hmc, hmz, hn0⟩ := hX
  obtain ⟨hP, hS, hsz, hscr, hNN⟩ := hJ
  simp only [ai_stepI] at h
  split at h
  · rename_i ci hlk
    have hl := ai_lk ai_kT_in hlk
    split at h
    · rename_i n st
      by_cases hc : ¬ n < 0 ∧ n.toNatClampNeg ≤ 100000 ∧ k.1 + 1 ≤ ai_mc m ∧ k.2 + n.toNatClampNeg ≤ ai_mz m ∧ mN w < 1000000
      · rw [if_pos hc] at h
        obtain ⟨c1, c2, c3, c4, c5⟩ := hc
        have hJ0 : ai_J G s w H locs := ⟨hP, hS, hsz, hscr, hNN⟩
        have hA : ∀ q, s.heap.size ≤ q → gA G q := fun q hq => Nat.le_trans hn0 hq
        by_cases h5 : ci = 5
        · subst h5
          rw [if_pos rfl] at h
          cases h
          refine ai_alloc (w' := mnew w (4, n.toNatClampNeg)) hJ0 rfl c5 (fun j hj => ai_ce_mnew hj) (ai_scr_mnew c5 hscr) (Nat.le_trans c3 hmc) (fun e2 he2 hW => ?_) (fun H1 hJ1 => kk _ _ _ hJ1 hL)
          refine va_newq (C := RX7) hx hb hown (hts _ (hl (.classLink (ai_on (ai_ow m)) ix RX7) List.mem_cons_self)) (va_AO.of (hts _ (ai_W4_in _ (List.mem_of_getElem? (i := 12) rfl)))) hK hP ai_cw_D hS hA c1 rfl (by omega) he2 (Nat.le_trans c4 hmz) hd fun q cA H1 p1 p2 p3 p4 => ?_
          have hcA : cA = gC G 2 := by
            obtain ⟨_, _, -, -, -, h1⟩ := (p1.2 4 _ rfl).2
            obtain ⟨_, _, -, -, -, h2⟩ := (hK.2 2 _ rfl).2
            exact Option.some.inj (h1.symm.trans h2)
          subst hcA
          have he : ai_ce G (mnew w (4, n.toNatClampNeg)) (mN w) = .inl (gC G 2, n.toNatClampNeg, .inr (.inr (.inr (.inr (fun _ => none))))) := by
            rw [ai_ce_4 (by rw [ai_mS_new]), ai_mS_new]
            simp only [ai_mP_new, Option.map_none]
          exact hW q H1 (by rw [he]; exact p2) (by rw [he]; exact p3) p4
        · rw [if_neg h5] at h
          by_cases h4 : ci = 4
          · subst h4
            rw [if_pos rfl] at h
            cases h
            refine ai_alloc (w' := mnew w (5, n.toNatClampNeg)) hJ0 rfl c5 (fun j hj => ai_ce_mnew hj) (ai_scr_mnew c5 hscr) (Nat.le_trans c3 hmc) (fun e2 he2 hW => ?_) (fun H1 hJ1 => kk _ _ _ hJ1 hL)
            refine va_newq (C := RX5) hx hb hown (hts _ (hl (.classLink (ai_on (ai_ow m)) ix RX5) List.mem_cons_self)) (va_AO.of (hts _ (ai_W4_in _ (List.mem_of_getElem? (i := 13) rfl)))) hK hP ai_cw_D hS hA c1 rfl (by omega) he2 (Nat.le_trans c4 hmz) hd fun q cA H1 p1 p2 p3 p4 => ?_
            have hcA : cA = gC G 3 := by
              obtain ⟨_, _, -, -, -, h1⟩ := (p1.2 4 _ rfl).2
              obtain ⟨_, _, -, -, -, h2⟩ := (hK.2 3 _ rfl).2
              exact Option.some.inj (h1.symm.trans h2)
            subst hcA
            have he : ai_ce G (mnew w (5, n.toNatClampNeg)) (mN w) = .inl (gC G 3, n.toNatClampNeg, .inr (.inr (.inr (.inr (fun _ => none))))) := by
              rw [ai_ce_5 (by rw [ai_mS_new]), ai_mS_new]
              simp only [ai_mP_new, Option.map_none]
            exact hW q H1 (by rw [he]; exact p2) (by rw [he]; exact p3) p4
          · rw [if_neg h4] at h
            cases h
      · rw [if_neg hc] at h
        cases h
    · cases h
  · cases h
theorem ai_s_new {ix : Nat} (hX : ai_X G m d p R s mid args meth c) (hJ : ai_J G s w H locs) (hL : ai_Lr G ls m.1.2.2.1 L) (h : ai_stepI m (.new ix) pc L st k w = some c') (hd : decode m.1.2.1 pc = .ok (.new ix, 3)) (kk : ai_KK G m p l e R s mid args below meth c Q c') : W p l e R s mid args below meth c H locs k.1 k.2 Q (F0 mid pc ls (st.map (ai_vm G))) := by
  obtain ⟨hx, hb, hml, hown, hts, hnm, hE, hK, hfr, hlo, hmc, hmz, hn0⟩ := hX
  obtain ⟨hP, hS, hsz, hscr, hNN⟩ := hJ
  simp only [ai_stepI] at h
  split at h
  · rename_i ci hlk
    have hl := ai_lk ai_kT_in hlk
    split at h
    · rename_i hc
      cases h
      obtain ⟨c1, c2, c3, c4⟩ := hc
      have hJ0 : ai_J G s w H locs := ⟨hP, hS, hsz, hscr, hNN⟩
      have hA : ∀ q, s.heap.size ≤ q → gA G q := fun q hq => Nat.le_trans hn0 hq
      obtain ⟨hc1, hc2, hc3, hc4, hc5⟩ := ai_cls_ok ci c1
      refine ai_alloc (w' := mnew w (1, ci)) hJ0 rfl c4 (fun j hj => ai_ce_mnew hj) (ai_scr_mnew c4 hscr) (Nat.le_trans c2 hmc) (fun e2 he2 hW => ?_) (fun H1 hJ1 => kk _ _ _ hJ1 hL)
      have hcn : ci ≠ 100 := by omega
      have hsl : k.2 + ai_nf ci = k.2 + (ai_cl ci).2.2 := by rw [hc2]
      rw [hsl] at hW
      refine va_new (own := ai_on (ai_ow m)) (C := (ai_cl ci).1) (T := (ai_cl ci).2.1) (N := (ai_cl ci).2.2) (ci := ci) (fs := ai_fs G (mnew w (1, ci)) (mN w) ci) hx hb hts (fun w hw => hc3 w (List.mem_cons_of_mem _ (List.mem_cons_of_mem _ hw))) (ai_ty ci) hc4 hown (hts _ (hl (.classLink (ai_on (ai_ow m)) ix (ai_cl ci).1) (by unfold ai_kw; rw [if_neg hcn]; exact List.mem_cons_self))) (hts _ (hc3 _ List.mem_cons_self)) (hts _ (hc3 _ (List.mem_cons_of_mem _ List.mem_cons_self))) hK hP ai_cw_D hS hA hc1 ?_ he2 (by rw [← hsl]; exact Nat.le_trans c3 hmz) hd fun q H1 p2 p3 p4 => ?_
      · intro j hj
        have hj2 : j < ai_nf ci := by rw [hc2]; exact hj
        unfold vp_V
        rw [List.getD_eq_getElem?_getD, ai_fs_get hj2, ai_mI_new, ai_mP_new]
        by_cases hp : ai_isP ci j = true
        · rw [if_pos hp]
          rcases ai_tyP hp c1 hj2 with ⟨C, e⟩ | ⟨t, e⟩ <;> rw [e] <;> rfl
        · rw [if_neg hp]
          unfold ai_isP at hp
          split at hp
          · rename_i e; rw [e]; rfl
          · rename_i e; rw [e]; rfl
          · exact absurd rfl hp
      · have he : ai_ce G (mnew w (1, ci)) (mN w) = .inr (ci, ai_fs G (mnew w (1, ci)) (mN w) ci) := ai_ce_obj ai_mS_new
        exact hW q H1 (by rw [he]; exact p2) (by rw [he]; exact p3) p4
    · cases h
  · cases h
theorem ai_s_checkcast {ix : Nat} (hX : ai_X G m d p R s mid args meth c) (hJ : ai_J G s w H locs) (hL : ai_Lr G ls m.1.2.2.1 L) (h : ai_stepI m (.checkcast ix) pc L st k w = some c') (hd : decode m.1.2.1 pc = .ok (.checkcast ix, 3)) (kk : ai_KK G m p l e R s mid args below meth c Q c') : W p l e R s mid args below meth c H locs k.1 k.2 Q (F0 mid pc ls (st.map (ai_vm G))) := by
  obtain ⟨hx, hb, hml, hown, hts, hnm, hE, hK, hfr, hlo, hmc, hmz, hn0⟩ := hX
  obtain ⟨hP, hS, hsz, hscr, hNN⟩ := hJ
  simp only [ai_stepI] at h
  split at h
  · rename_i hlk
    have hl := ai_lk ai_kT_in hlk
    split at h
    · rename_i a st
      split at h
      · rename_i h2
        cases h
        have halt : a < mN w := ai_lt1 (by rw [h2]; decide)
        exact va_castA hx hb hown (hts _ (hl (.classLink (ai_on (ai_ow m)) ix "[I") List.mem_cons_self)) hP a (ai_cw_at halt hNN (ai_ce_2 h2)) (ai_arr_nm hK) hd (kk _ _ _ ⟨hP, hS, hsz, hscr, hNN⟩ hL)
      · cases h
    · cases h
  · cases h
theorem ai_s_ldc {ix : Nat} (hX : ai_X G m d p R s mid args meth c) (hJ : ai_J G s w H locs) (hL : ai_Lr G ls m.1.2.2.1 L) (h : ai_stepI m (.ldc ix) pc L st k w = some c') (hd : decode m.1.2.1 pc = .ok (.ldc ix, 2)) (kk : ai_KK G m p l e R s mid args below meth c Q c') : W p l e R s mid args below meth c H locs k.1 k.2 Q (F0 mid pc ls (st.map (ai_vm G))) := by
  obtain ⟨hx, hb, hml, hown, hts, hnm, hE, hK, hfr, hlo, hmc, hmz, hn0⟩ := hX
  obtain ⟨hP, hS, hsz, hscr, hNN⟩ := hJ
  simp only [ai_stepI] at h
  split at h
  · rename_i v hlk
    cases h
    exact lv_ldc hx hb hown (hts _ (ai_lk ai_iT_in hlk (.constant (ai_on (ai_ow m)) ix v) List.mem_cons_self)) hd (kk _ _ _ ⟨hP, hS, hsz, hscr, hNN⟩ hL)
  · split at h
    · rename_i i hlk
      cases h
      have hmem := ai_look_mem _ _ _ _ hlk
      have hi : i < 13 := ai_gT_ok _ hmem
      have hr := hE.2.1 _ _ _ hmem
      refine va_ldcS hx hb hown hr hd ?_
      have hio : gK G i = ai_io G (1000000 + i) := by
        unfold ai_io
        rw [if_neg (show ¬ 1000000 + i < 1000000 by omega), if_pos (show 1000000 + i < 1000100 by omega), show 1000000 + i - 1000000 = i by omega]
      rw [hio]
      exact kk _ _ _ ⟨hP, hS, hsz, hscr, hNN⟩ hL
    · cases h
theorem ai_s_ldc_w {ix : Nat} (hX : ai_X G m d p R s mid args meth c) (hJ : ai_J G s w H locs) (hL : ai_Lr G ls m.1.2.2.1 L) (h : ai_stepI m (.ldc_w ix) pc L st k w = some c') (hd : decode m.1.2.1 pc = .ok (.ldc_w ix, 3)) (kk : ai_KK G m p l e R s mid args below meth c Q c') : W p l e R s mid args below meth c H locs k.1 k.2 Q (F0 mid pc ls (st.map (ai_vm G))) := by
  obtain ⟨hx, hb, hml, hown, hts, hnm, hE, hK, hfr, hlo, hmc, hmz, hn0⟩ := hX
  obtain ⟨hP, hS, hsz, hscr, hNN⟩ := hJ
  simp only [ai_stepI] at h
  split at h
  · rename_i v hlk
    cases h
    exact lv_ldcw hx hb hown (hts _ (ai_lk ai_iT_in hlk (.constant (ai_on (ai_ow m)) ix v) List.mem_cons_self)) hd (kk _ _ _ ⟨hP, hS, hsz, hscr, hNN⟩ hL)
  · cases h
theorem ai_s_ldc2_w {ix : Nat} (hX : ai_X G m d p R s mid args meth c) (hJ : ai_J G s w H locs) (hL : ai_Lr G ls m.1.2.2.1 L) (h : ai_stepI m (.ldc2_w ix) pc L st k w = some c') (hd : decode m.1.2.1 pc = .ok (.ldc2_w ix, 3)) (kk : ai_KK G m p l e R s mid args below meth c Q c') : W p l e R s mid args below meth c H locs k.1 k.2 Q (F0 mid pc ls (st.map (ai_vm G))) := by
  obtain ⟨hx, hb, hml, hown, hts, hnm, hE, hK, hfr, hlo, hmc, hmz, hn0⟩ := hX
  obtain ⟨hP, hS, hsz, hscr, hNN⟩ := hJ
  simp only [ai_stepI] at h
  split at h
  · rename_i v hlk
    cases h
    exact lv_ldc2 hx hb hown (hts _ (ai_lk ai_lT_in hlk (.constantLong (ai_on (ai_ow m)) ix v) List.mem_cons_self)) hd (kk _ _ _ ⟨hP, hS, hsz, hscr, hNN⟩ hL)
  · cases h
end AISND2
