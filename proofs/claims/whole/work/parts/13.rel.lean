/-! what the abstract machine's cells are in the heap -/
abbrev ai_G : Type := Nat × va_G × (Nat → ClassId) × (Nat → Nat) × (Nat → Nat) × Option Nat × Nat × Nat × (Nat → Int32)
def gN (G : ai_G) : Nat := G.1
def gD (G : ai_G) : va_G := G.2.1
def gC (G : ai_G) : Nat → ClassId := G.2.2.1
def gK (G : ai_G) : Nat → Nat := G.2.2.2.1
def gV (G : ai_G) : Nat → Nat := G.2.2.2.2.1
def gF (G : ai_G) : Option Nat := G.2.2.2.2.2.1
def gB (G : ai_G) : Nat := G.2.2.2.2.2.2.1
def gL (G : ai_G) : Nat := G.2.2.2.2.2.2.2.1
def gX (G : ai_G) : Nat → Int32 := G.2.2.2.2.2.2.2.2
def gA (G : ai_G) : Nat → Prop := fun q => gN G ≤ q
def gT (G : ai_G) : List (ClassId × FieldType) := [(gC G 0, .int), (gC G 1, .boolean), (gC G 2, .object RX7), (gC G 3, .object RX5)]
def ai_io (G : ai_G) (i : Nat) : Nat := if i < 1000000 then gN G + i else if i < 1000100 then gK G (i - 1000000) else if i < 1000200 then gV G (i - 1000100) else gB G
def ai_vm (G : ai_G) (v : Value) : Value := match v with
  | .ref a => .ref (ai_io G a)
  | .float _ => va_rf (gF G)
  | u => u
def ai_fs (G : ai_G) (w : ai_H) (i ci : Nat) : List Value := (List.range (ai_nf ci)).map (fun k => if ai_isP ci k = true then va_rf ((mP w i k).map (ai_io G)) else .int (mI w i k))
def ai_ce (G : ai_G) (w : ai_H) (i : Nat) : va_E := match (mS w i).1 with
  | 1 => .inr ((mS w i).2, ai_fs G w i (mS w i).2)
  | 2 => .inl (gC G 0, (mS w i).2, .inl (mI w i))
  | 3 => .inl (gC G 1, (mS w i).2, .inl (mI w i))
  | 4 => .inl (gC G 2, (mS w i).2, .inr (.inr (.inr (.inr (fun j => (mP w i j).map (ai_io G))))))
  | 5 => .inl (gC G 3, (mS w i).2, .inr (.inr (.inr (.inr (fun j => (mP w i j).map (ai_io G))))))
  | _ => .inl (gC G 0, 0, .inl (fun _ => 0))
def ai_cw (G : ai_G) (w : ai_H) : va_W := (List.range (mN w)).map (fun i => (gN G + i, ai_ce G w i))
theorem ai_io_lt {G : ai_G} {i : Nat} (h : i < 1000000) : ai_io G i = gN G + i := if_pos h
theorem ai_cw_get {G : ai_G} {w : ai_H} {i : Nat} (h : i < mN w) : (ai_cw G w)[i]? = some (gN G + i, ai_ce G w i) := by
  unfold ai_cw
  rw [List.getElem?_map, List.getElem?_range h]
  rfl
theorem ai_cw_len {G : ai_G} {w : ai_H} : (ai_cw G w).length = mN w := by
  unfold ai_cw
  simp
theorem ai_cw_some {G : ai_G} {w : ai_H} {i : Nat} {q : Nat × va_E} (h : (ai_cw G w)[i]? = some q) : i < mN w ∧ q = (gN G + i, ai_ce G w i) := by
  have h1 : i < mN w := by
    have h2 := (List.getElem?_eq_some_iff.mp h).1
    rwa [ai_cw_len] at h2
  rw [ai_cw_get h1] at h
  exact ⟨h1, (Option.some.inj h).symm⟩
theorem ai_cw_D {G : ai_G} {w : ai_H} : va_D (gA G) (ai_cw G w) := by
  refine ⟨fun i j p q hi hj h => ?_, fun k q hk => ?_⟩
  · obtain ⟨-, rfl⟩ := ai_cw_some hi
    obtain ⟨-, rfl⟩ := ai_cw_some hj
    dsimp only at h
    omega
  · obtain ⟨-, rfl⟩ := ai_cw_some hk
    exact Nat.le_add_right _ _
theorem ai_cw_set {G : ai_G} {w w' : ai_H} {i : Nat} (hi : i < mN w) (hN : mN w' = mN w) (ho : ∀ j, j ≠ i → ai_ce G w' j = ai_ce G w j) : ai_cw G w' = (ai_cw G w).set i (gN G + i, ai_ce G w' i) := by
  apply List.ext_getElem?
  intro j
  rw [List.getElem?_set]
  by_cases h : i = j
  · subst h
    rw [if_pos rfl, if_pos (by rw [ai_cw_len]; exact hi), ai_cw_get (by rw [hN]; exact hi)]
  · rw [if_neg h]
    by_cases hj : j < mN w
    · rw [ai_cw_get (by rw [hN]; exact hj), ai_cw_get hj, ho j (fun e => h e.symm)]
    · rw [List.getElem?_eq_none (by rw [ai_cw_len, hN]; omega), List.getElem?_eq_none (by rw [ai_cw_len]; omega)]
theorem ai_ce_msI {G : ai_G} {w : ai_H} {i k j : Nat} {x : Int32} (h : j ≠ i) : ai_ce G (msI w i k x) j = ai_ce G w j := by
  have e1 : mI (msI w i k x) j = mI w j := by
    funext q
    rw [mI_msI, if_neg (fun z => h z.1)]
  have e2 : mP (msI w i k x) j = mP w j := rfl
  unfold ai_ce ai_fs
  rw [mS_msI, e1, e2]
theorem ai_ce_msA {G : ai_G} {w : ai_H} {i j : Nat} {f : Nat → Int32} (h : j ≠ i) : ai_ce G (msA w i f) j = ai_ce G w j := by
  have e1 : mI (msA w i f) j = mI w j := by
    funext q
    rw [mI_msA, if_neg h]
  have e2 : mP (msA w i f) j = mP w j := rfl
  unfold ai_ce ai_fs
  rw [mS_msA, e1, e2]
theorem ai_ce_msP {G : ai_G} {w : ai_H} {i k j : Nat} {x : Option Nat} (h : j ≠ i) : ai_ce G (msP w i k x) j = ai_ce G w j := by
  have e1 : mI (msP w i k x) j = mI w j := rfl
  have e2 : mP (msP w i k x) j = mP w j := by
    funext q
    rw [mP_msP, if_neg (fun z => h z.1)]
  unfold ai_ce ai_fs
  rw [mS_msP, e1, e2]
theorem ai_ce_mnew {G : ai_G} {w : ai_H} {t : ai_S} {j : Nat} (h : j ≠ mN w) : ai_ce G (mnew w t) j = ai_ce G w j := by
  have e1 : mI (mnew w t) j = mI w j := by
    funext q
    rw [mI_mnew, if_neg h]
  have e2 : mP (mnew w t) j = mP w j := by
    funext q
    rw [mP_mnew, if_neg h]
  unfold ai_ce ai_fs
  rw [mS_mnew, if_neg h, e1, e2]
theorem ai_cw_new {G : ai_G} {w w' : ai_H} (hN : mN w' = mN w + 1) (ho : ∀ j, j ≠ mN w → ai_ce G w' j = ai_ce G w j) : ai_cw G w' = ai_cw G w ++ [(gN G + mN w, ai_ce G w' (mN w))] := by
  apply List.ext_getElem?
  intro j
  rw [List.getElem?_append, ai_cw_len]
  by_cases hj : j < mN w
  · rw [if_pos hj, ai_cw_get (by rw [hN]; omega), ai_cw_get hj, ho j (by omega)]
  · rw [if_neg hj]
    by_cases h : j = mN w
    · subst h
      rw [ai_cw_get (by rw [hN]; omega)]
      simp
    · rw [List.getElem?_eq_none (by rw [ai_cw_len, hN]; omega), List.getElem?_eq_none (by simp; omega)]
theorem ai_vm_cat (G : ai_G) (v : Value) : (ai_vm G v).category = v.category := by
  cases v <;> first | rfl | (show (va_rf (gF G)).category = 1; cases gF G <;> rfl)
/-- the locals -/
def ai_Lr (G : ai_G) (ls : Array Slot) (n : Nat) (L : List (Option Value)) : Prop := ls.size = n ∧ lv_wf ls ∧ ∀ (i : Nat) (v : Value), L[i]? = some (some v) → ls[i]? = some (.val (ai_vm G v))
def ai_ll (G : ai_G) (L : List (Option Value)) : List (Nat × Value) := L.zipIdx.filterMap (fun q => q.1.map (fun v => (q.2, ai_vm G v)))
theorem ai_ll_mem {G : ai_G} {L : List (Option Value)} {q : Nat × Value} : q ∈ ai_ll G L ↔ ∃ v, L[q.1]? = some (some v) ∧ q.2 = ai_vm G v := by
  unfold ai_ll
  rw [List.mem_filterMap]
  constructor
  · rintro ⟨⟨o, i⟩, h1, h2⟩
    have h3 := List.mem_zipIdx_iff_getElem?.mp h1
    cases o with
    | none => cases h2
    | some v =>
      cases h2
      exact ⟨v, h3, rfl⟩
  · rintro ⟨v, h1, h2⟩
    refine ⟨(some v, q.1), List.mem_zipIdx_iff_getElem?.mpr h1, ?_⟩
    show some (q.1, ai_vm G v) = some q
    rw [← h2]
theorem ai_Lr.has {G : ai_G} {ls : Array Slot} {n : Nat} {L : List (Option Value)} (h : ai_Lr G ls n L) : lv_has ls n (ai_ll G L) := by
  refine ⟨h.1, h.2.1, fun q hq => ?_⟩
  obtain ⟨v, h1, h2⟩ := ai_ll_mem.mp hq
  rw [h.2.2 q.1 v h1, h2]
theorem ai_Lr.ld {G : ai_G} {ls : Array Slot} {n : Nat} {L : List (Option Value)} (h : ai_Lr G ls n L) {i : Nat} {v : Value} (hv : ai_ld L i = some v) : ls[i]? = some (.val (ai_vm G v)) := by
  refine h.2.2 i v ?_
  unfold ai_ld at hv
  cases hL : L[i]? with
  | none => rw [hL] at hv; cases hv
  | some o => rw [hL] at hv; exact congrArg some hv
theorem ai_kl_some {a : Option Value} {u : Value} (h : ai_kl a = some u) : a = some u ∧ u.category ≠ 2 := by
  cases a with
  | none => cases h
  | some z => cases z <;> first | (cases h; exact ⟨rfl, fun e => by simp [Value.category] at e⟩) | cases h
theorem ai_st1_get : ∀ (L : List (Option Value)) (i : Nat) (v : Value) (j : Nat) (u : Value), (ai_st1 L i v)[j]? = some (some u) → (j = i ∧ u = v) ∨ (j ≠ i ∧ L[j]? = some (some u) ∧ ¬ (j + 1 = i ∧ u.category = 2)) := by
  intro L i v
  fun_induction ai_st1 L i v with
  | case1 i => intro j u h; simp at h
  | case2 a t =>
    intro j u h
    cases j with
    | zero => simp at h; exact Or.inl ⟨rfl, h.symm⟩
    | succ j => exact Or.inr ⟨by omega, by simpa using h, by omega⟩
  | case3 a b t =>
    intro j u h
    match j with
    | 0 =>
      simp at h
      obtain ⟨h1, h2⟩ := ai_kl_some h
      exact Or.inr ⟨by omega, by simp [h1], fun z => h2 z.2⟩
    | 1 => simp at h; exact Or.inl ⟨rfl, h.symm⟩
    | j + 2 => exact Or.inr ⟨by omega, by simpa using h, by omega⟩
  | case4 a =>
    intro j u h
    match j with
    | 0 =>
      simp at h
      obtain ⟨h1, h2⟩ := ai_kl_some h
      exact Or.inr ⟨by omega, by simp [h1], fun z => h2 z.2⟩
    | j + 1 => simp at h
  | case5 a t i h1 h2 ih =>
    intro j u h
    cases j with
    | zero =>
      simp at h
      refine Or.inr ⟨by omega, by simp [h], fun z => ?_⟩
      have hi : i = 0 := by omega
      subst hi
      cases t with
      | nil => exact h2 rfl rfl
      | cons b t => exact h1 b t rfl rfl
    | succ j =>
      simp at h
      rcases ih j u h with ⟨e, e2⟩ | ⟨e, e2, e3⟩
      · exact Or.inl ⟨by omega, e2⟩
      · exact Or.inr ⟨by omega, by simpa using e2, fun z => e3 ⟨by omega, z.2⟩⟩
theorem ai_Lr.st1 {G : ai_G} {ls' : Array Slot} {n : Nat} {L : List (Option Value)} {i : Nat} {v : Value}
    (h : lv_has ls' n ((i, ai_vm G v) :: (ai_ll G L).filter (fun q => !(q.1 == i) && !(q.1 + 1 == i && q.2.category == 2)))) : ai_Lr G ls' n (ai_st1 L i v) := by
  refine ⟨h.1, h.2.1, fun j u hu => ?_⟩
  rcases ai_st1_get L i v j u hu with ⟨rfl, rfl⟩ | ⟨e1, e2, e3⟩
  · exact h.2.2 (j, ai_vm G u) List.mem_cons_self
  · refine h.2.2 (j, ai_vm G u) (List.mem_cons_of_mem _ (List.mem_filter.mpr ⟨ai_ll_mem.mpr ⟨u, e2, rfl⟩, ?_⟩))
    have hc : (ai_vm G u).category = u.category := ai_vm_cat G u
    simp only [hc]
    by_cases h1 : j + 1 = i
    · have h2 : ¬ u.category = 2 := fun z => e3 ⟨h1, z⟩
      simp [e1, h2]
    · simp [e1, h1]
theorem ai_st2_get : ∀ (L : List (Option Value)) (i : Nat) (v : Value) (j : Nat) (u : Value), (ai_st2 L i v)[j]? = some (some u) → (j = i ∧ u = v) ∨ (j ≠ i ∧ j ≠ i + 1 ∧ L[j]? = some (some u) ∧ ¬ (j + 1 = i ∧ u.category = 2)) := by
  intro L i v
  fun_induction ai_st2 L i v with
  | case1 i => intro j u h; simp at h
  | case2 a b t =>
    intro j u h
    match j with
    | 0 => simp at h; exact Or.inl ⟨rfl, h.symm⟩
    | 1 => simp at h
    | j + 2 => exact Or.inr ⟨by omega, by omega, by simpa using h, by omega⟩
  | case3 a =>
    intro j u h
    match j with
    | 0 => simp at h
    | j + 1 => simp at h
  | case4 a b c t =>
    intro j u h
    match j with
    | 0 =>
      simp at h
      obtain ⟨h1, h2⟩ := ai_kl_some h
      exact Or.inr ⟨by omega, by omega, by simp [h1], fun z => h2 z.2⟩
    | 1 => simp at h; exact Or.inl ⟨rfl, h.symm⟩
    | 2 => simp at h
    | j + 3 => exact Or.inr ⟨by omega, by omega, by simpa using h, by omega⟩
  | case5 a b =>
    intro j u h
    match j with
    | 0 =>
      simp at h
      obtain ⟨h1, h2⟩ := ai_kl_some h
      exact Or.inr ⟨by omega, by omega, by simp [h1], fun z => h2 z.2⟩
    | 1 => simp at h
    | j + 2 => simp at h
  | case6 a =>
    intro j u h
    match j with
    | 0 =>
      simp at h
      obtain ⟨h1, h2⟩ := ai_kl_some h
      exact Or.inr ⟨by omega, by omega, by simp [h1], fun z => h2 z.2⟩
    | j + 1 => simp at h
  | case7 a t i h1 h2 h3 ih =>
    intro j u h
    cases j with
    | zero =>
      simp at h
      refine Or.inr ⟨by omega, by omega, by simp [h], fun z => ?_⟩
      have hi : i = 0 := by omega
      subst hi
      match t, h1, h2, h3 with
      | [], _, _, h3 => exact h3 rfl rfl
      | [b], _, h2, _ => exact h2 b rfl rfl
      | b :: c :: t, h1, _, _ => exact h1 b c t rfl rfl
    | succ j =>
      simp at h
      rcases ih j u h with ⟨e, e2⟩ | ⟨e, e1, e2, e3⟩
      · exact Or.inl ⟨by omega, e2⟩
      · exact Or.inr ⟨by omega, by omega, by simpa using e2, fun z => e3 ⟨by omega, z.2⟩⟩
theorem ai_Lr.st2 {G : ai_G} {ls' : Array Slot} {n : Nat} {L : List (Option Value)} {i : Nat} {v : Value}
    (h : lv_has ls' n ((i, ai_vm G v) :: (ai_ll G L).filter (fun q => !(q.1 == i) && (!(q.1 == i + 1) && !(q.1 + 1 == i && q.2.category == 2))))) : ai_Lr G ls' n (ai_st2 L i v) := by
  refine ⟨h.1, h.2.1, fun j u hu => ?_⟩
  rcases ai_st2_get L i v j u hu with ⟨rfl, rfl⟩ | ⟨e1, e4, e2, e3⟩
  · exact h.2.2 (j, ai_vm G u) List.mem_cons_self
  · refine h.2.2 (j, ai_vm G u) (List.mem_cons_of_mem _ (List.mem_filter.mpr ⟨ai_ll_mem.mpr ⟨u, e2, rfl⟩, ?_⟩))
    have hc : (ai_vm G u).category = u.category := ai_vm_cat G u
    simp only [hc]
    by_cases h1 : j + 1 = i
    · have h2 : ¬ u.category = 2 := fun z => e3 ⟨h1, z⟩
      simp [e1, e4, h2]
    · simp [e1, e4, h1]
/-- the entry -/
theorem ai_args_get (G : ai_G) : ∀ (vs : List Value) (b j : Nat) (u : Value), (ai_args vs)[j]? = some (some u) → (b + j, ai_vm G u) ∈ lv_args b (vs.map (ai_vm G)) := by
  intro vs
  induction vs with
  | nil => intro b j u h; simp [ai_args] at h
  | cons v t ih =>
    intro b j u h
    unfold ai_args at h
    rw [List.map_cons]
    unfold lv_args
    rw [ai_vm_cat]
    by_cases hc : v.category = 2
    · rw [if_pos hc] at h ⊢
      match j with
      | 0 => simp at h; subst h; exact List.mem_cons_self
      | 1 => simp at h
      | j + 2 =>
        simp at h
        have e : b + (j + 2) = b + 2 + j := by omega
        rw [e]
        exact List.mem_cons_of_mem _ (ih (b + 2) j u h)
    · rw [if_neg hc] at h ⊢
      cases j with
      | zero => simp at h; subst h; exact List.mem_cons_self
      | succ j =>
        simp at h
        have e : b + (j + 1) = b + 1 + j := by omega
        rw [e]
        exact List.mem_cons_of_mem _ (ih (b + 1) j u h)
theorem ai_args_len (G : ai_G) : ∀ (vs : List Value), (lg_sl (vs.map (ai_vm G))).length = (ai_args vs).length := by
  intro vs
  induction vs with
  | nil => rfl
  | cons v t ih =>
    unfold ai_args
    rw [List.map_cons]
    unfold lg_sl at ih ⊢
    rw [List.flatMap_cons, List.length_append, ih, ai_vm_cat]
    by_cases hc : v.category = 2
    · simp [hc]; omega
    · simp [hc]; omega
theorem ai_entry_Lr (G : ai_G) {vs : List Value} {n : Nat} (h : (ai_args vs).length ≤ n) : ai_Lr G ((lg_sl (vs.map (ai_vm G)) ++ List.replicate (n - (lg_sl (vs.map (ai_vm G))).length) Slot.unset).toArray) n (ai_entry vs n) := by
  have h1 := lv_entry (vs.map (ai_vm G)) (n := n) (by rw [ai_args_len]; exact h)
  refine ⟨h1.1, h1.2.1, fun i v hv => ?_⟩
  have h2 : (ai_args vs)[i]? = some (some v) := by
    unfold ai_entry at hv
    rw [List.getElem?_append] at hv
    by_cases hi : i < (ai_args vs).length
    · rwa [if_pos hi] at hv
    · rw [if_neg hi] at hv
      rw [List.getElem?_replicate] at hv
      by_cases hj : i - (ai_args vs).length < n - (ai_args vs).length
      · rw [if_pos hj] at hv; cases hv
      · rw [if_neg hj] at hv; cases hv
  have h3 := h1.2.2 (0 + i, ai_vm G v) (ai_args_get G vs 0 i v h2)
  simpa using h3
theorem ai_stack_cat (G : ai_G) (st : List Value) : ((st.map (ai_vm G)).map fun v => v.category).sum = ai_cats st := by
  unfold ai_cats
  rw [List.map_map]
  congr 1
  apply List.map_congr_left
  intro v _
  exact ai_vm_cat G v
/-! the words that stay -/
def ai_stab : Cond → Bool
  | .fieldLinkNest _ _ _ _ _ _ => true
  | .methodLinkNest _ _ _ _ => true
  | .castable _ _ => true
  | .arrayOver (.object _) => true
  | w => goodWord w
theorem ai_stab_ok {args a' : Array Value} {s U : State} (hW : s.WarmedH U.vm) {w : Cond} (h : ai_stab w = true) (hb : w.before args s = true) : w.before a' U = true := by
  cases w
  case fieldLinkNest => exact va_Nw.use rfl (va_Nw.warmF hW (va_Nw.of rfl hb))
  case methodLinkNest => exact va_Nw.use rfl (va_Nw.warmM hW (va_Nw.of rfl hb))
  case castable => exact va_Nw.use rfl (va_Nw.warmC hW (va_Nw.of rfl hb))
  case arrayOver t =>
    cases t
    case object C => exact va_AO.use (va_AO.moved hW.alike (va_AO.of hb))
    all_goals exact word_at hW (good_of_word h) hb
  all_goals exact word_at hW (good_of_word h) hb
def ai_WS : List Cond := lw_tbl.filter ai_stab
theorem ai_WS_in {w : Cond} (h1 : w ∈ lw_tbl) (h2 : ai_stab w = true) : w ∈ ai_WS := List.mem_filter.mpr ⟨h1, h2⟩
theorem ai_WS_warm {args : Array Value} {s : State} (hts : ∀ w ∈ ai_WS, w.before args s = true) : ∀ w ∈ ai_WS, ∀ (a' : Array Value) (U : State), s.WarmedH U.vm → w.before a' U = true := fun w hw a' U hW => ai_stab_ok hW (List.mem_filter.mp hw).2 (hts w hw)
/-! the surroundings: strings, statics, the script -/
def ai_E (G : ai_G) (U : State) (H : Heap) : Prop :=
  vk_S 13 ai_len ai_byt (gK G) (gV G) (gA G) U H ∧ (∀ o ix i : Nat, ((o, ix), i) ∈ ai_gT → vk_R (ai_own.getD o "") ix (ai_txt.getD i "") (gK G i) U) ∧
  va_Z "java/lang/String" "COMPACT_STRINGS" "Z" (.int 1) (gA G) U H ∧ va_Z "jdk/internal/util/Preconditions" "SIOOBE_FORMATTER" "Ljava/util/function/BiFunction;" (va_rf (gF G)) (gA G) U H ∧
  va_X (gB G) (gL G) (gX G) U H ∧ gB G < gN G
theorem ai_E.kept {G : ai_G} {U : State} {H H1 : Heap} (h : ai_E G U H) (hn : gN G ≤ H.size) (hq : ∀ a : Nat, a < H.size → ¬ gA G a → H1[a]? = H[a]?) : ai_E G U H1 :=
  ⟨h.1.kept hq, h.2.1, h.2.2.1.kept hq, h.2.2.2.1.kept hq, h.2.2.2.2.1.kept (hq _ (Nat.lt_of_lt_of_le h.2.2.2.2.2 hn) (Nat.not_le.mpr h.2.2.2.2.2)), h.2.2.2.2.2⟩
theorem ai_E.warm {G : ai_G} {s U : State} {H : Heap} (hW : s.WarmedH U.vm) (h : ai_E G s H) : ai_E G U H :=
  ⟨h.1.moved hW.alike, fun o ix i hi => vk_R.warm hW (h.2.1 o ix i hi), h.2.2.1.moved hW.alike, h.2.2.2.1.moved hW.alike, h.2.2.2.2.1.moved hW.alike, h.2.2.2.2.2⟩
theorem ai_E.same {G : ai_G} {s U : State} {H : Heap} (hv : U.vm = s.vm) (h : ai_E G s H) : ai_E G U H := by
  have hA : s.vm.Alike U.vm := by rw [hv]; exact Vm.Alike.refl s.vm
  exact ⟨h.1.moved hA, fun o ix i hi => vk_R.same hv (h.2.1 o ix i hi), h.2.2.1.moved hA, h.2.2.2.1.moved hA, h.2.2.2.2.1.moved hA, h.2.2.2.2.2⟩
/-- the method's surroundings -/
def ai_X (G : ai_G) (m : ai_M) (d : Nat) (p : Program) (R : Room) (s : State) (mid : MethodId) (args : Array Value) (meth : Method) (c : Code) : Prop :=
  p.tables.exec = Jvm.exec ∧ c.code = m.1.2.1 ∧ c.maxLocals = m.1.2.2.1 ∧ s.vm.findClass (ai_own.getD (ai_ow m) "") = some mid.cls ∧ (∀ w ∈ ai_WS, w.before args s = true) ∧ (m.1.1.name = "<init>" → meth.name = "<init>") ∧
  ai_E G s s.heap ∧ va_K (gD G) vwCl (gT G) s ∧ d + 2 ≤ R.frames ∧ 60 * (d + 2) ≤ R.locals ∧ ai_mc m ≤ R.cells ∧ ai_mz m ≤ R.slots ∧ gN G ≤ s.heap.size
def ai_J (G : ai_G) (s : State) (w : ai_H) (H : Heap) (locs : List Loc) : Prop :=
  va_P (gD G) vwCl (ai_cw G w) H ∧ va_S (gA G) s.heap H locs ∧ H.size = gN G + mN w ∧ ((∀ j, mI w 1000300 j = gX G j) ∧ mP w 1000300 0 = some (gL G)) ∧ mN w ≤ 1000000
