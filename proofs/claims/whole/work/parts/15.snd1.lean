/-! printed by wip/gen/snd.py: each instruction of the abstract machine is the machine's -/
section AISND
variable {G : ai_G} {m : ai_M} {d : Nat} {p : Program} {l : Launch} {e : Env} {R : Room} {s : State} {mid : MethodId} {args : Array Value} {below : List Frame} {meth : Method} {c : Code} {H : Heap} {locs : List Loc} {Q : State → Prop} {len pc : Nat} {L : List (Option Value)} {st : List Value} {k : Nat × Nat} {w : ai_H} {c' : ai_C} {ls : Array Slot}
abbrev ai_KK (G : ai_G) (m : ai_M) (p : Program) (l : Launch) (e : Env) (R : Room) (s : State) (mid : MethodId) (args : Array Value) (below : List Frame) (meth : Method) (c : Code) (Q : State → Prop) (c' : ai_C) : Prop :=
  ∀ (H' : Heap) (locs' : List Loc) (ls' : Array Slot), ai_J G s c'.2.2.2.2 H' locs' → ai_Lr G ls' m.1.2.2.1 c'.2.1 → W p l e R s mid args below meth c H' locs' c'.2.2.2.1.1 c'.2.2.2.1.2 Q (F0 mid c'.1 ls' (c'.2.2.1.map (ai_vm G)))
theorem ai_tg_eq {pc : Nat} {off : Int} (h : 0 ≤ (pc : Int) + off) : (pc : Int) + off = ((ai_tg pc off : Nat) : Int) := by
  unfold ai_tg
  omega
theorem ai_cw_at {G : ai_G} {w : ai_H} {i : Nat} (h : i < mN w) (hn : mN w ≤ 1000000) {e : va_E} (he : ai_ce G w i = e) : (ai_cw G w)[i]? = some (ai_io G i, e) := by
  rw [ai_cw_get h, he, ai_io_lt (by omega)]
theorem ai_ce_obj {G : ai_G} {w : ai_H} {i ci : Nat} (h : mS w i = (1, ci)) : ai_ce G w i = .inr (ci, ai_fs G w i ci) := by
  unfold ai_ce
  rw [h]
  rfl
theorem ai_ce_2 {G : ai_G} {w : ai_H} {i : Nat} (h : (mS w i).1 = 2) : ai_ce G w i = .inl (gC G 0, (mS w i).2, .inl (mI w i)) := by
  unfold ai_ce
  rw [h]
  rfl
theorem ai_ce_3 {G : ai_G} {w : ai_H} {i : Nat} (h : (mS w i).1 = 3) : ai_ce G w i = .inl (gC G 1, (mS w i).2, .inl (mI w i)) := by
  unfold ai_ce
  rw [h]
  rfl
theorem ai_ce_4 {G : ai_G} {w : ai_H} {i : Nat} (h : (mS w i).1 = 4) : ai_ce G w i = .inl (gC G 2, (mS w i).2, .inr (.inr (.inr (.inr (fun j => (mP w i j).map (ai_io G)))))) := by
  unfold ai_ce
  rw [h]
  rfl
theorem ai_ce_5 {G : ai_G} {w : ai_H} {i : Nat} (h : (mS w i).1 = 5) : ai_ce G w i = .inl (gC G 3, (mS w i).2, .inr (.inr (.inr (.inr (fun j => (mP w i j).map (ai_io G)))))) := by
  unfold ai_ce
  rw [h]
  rfl
theorem ai_lt1 {w : ai_H} {i : Nat} (h : (mS w i).1 ≠ 0) : i < mN w := mS_lt rfl h
theorem ai_fs_get {G : ai_G} {w : ai_H} {i ci f : Nat} (h : f < ai_nf ci) : (ai_fs G w i ci)[f]? = some (if ai_isP ci f = true then va_rf ((mP w i f).map (ai_io G)) else .int (mI w i f)) := by
  unfold ai_fs
  rw [List.getElem?_map, List.getElem?_range h]
  rfl
theorem ai_fs_len {G : ai_G} {w : ai_H} {i ci : Nat} : (ai_fs G w i ci).length = ai_nf ci := by
  unfold ai_fs
  simp
theorem ai_vm_rf (G : ai_G) (x : Option Nat) : ai_vm G (ai_rf x) = va_rf (x.map (ai_io G)) := by cases x <;> rfl
theorem ai_arr_nm {G : ai_G} {s : State} (hK : va_K (gD G) vwCl (gT G) s) : s.vm.findClass "[I" = some (gC G 0) := va_nm_int (hK.2 0 _ rfl).2

theorem ai_s_iconst {n : Int} (hX : ai_X G m d p R s mid args meth c) (hJ : ai_J G s w H locs) (hL : ai_Lr G ls m.1.2.2.1 L) (h : ai_stepI m (.iconst n) pc L st k w = some c') (hd : decode m.1.2.1 pc = .ok (.iconst n, 1)) (kk : ai_KK G m p l e R s mid args below meth c Q c') : W p l e R s mid args below meth c H locs k.1 k.2 Q (F0 mid pc ls (st.map (ai_vm G))) := by
  obtain ⟨hx, hb, hml, hown, hts, hnm, hE, hK, hfr, hlo, hmc, hmz, hn0⟩ := hX
  simp only [ai_stepI] at h
  cases h
  exact lv_iconst hx hb hd rfl (kk _ _ _ hJ hL)
theorem ai_s_bipush {n : Int} (hX : ai_X G m d p R s mid args meth c) (hJ : ai_J G s w H locs) (hL : ai_Lr G ls m.1.2.2.1 L) (h : ai_stepI m (.bipush n) pc L st k w = some c') (hd : decode m.1.2.1 pc = .ok (.bipush n, 2)) (kk : ai_KK G m p l e R s mid args below meth c Q c') : W p l e R s mid args below meth c H locs k.1 k.2 Q (F0 mid pc ls (st.map (ai_vm G))) := by
  obtain ⟨hx, hb, hml, hown, hts, hnm, hE, hK, hfr, hlo, hmc, hmz, hn0⟩ := hX
  simp only [ai_stepI] at h
  cases h
  exact lv_bipush hx hb hd rfl (kk _ _ _ hJ hL)
theorem ai_s_sipush {n : Int} (hX : ai_X G m d p R s mid args meth c) (hJ : ai_J G s w H locs) (hL : ai_Lr G ls m.1.2.2.1 L) (h : ai_stepI m (.sipush n) pc L st k w = some c') (hd : decode m.1.2.1 pc = .ok (.sipush n, 3)) (kk : ai_KK G m p l e R s mid args below meth c Q c') : W p l e R s mid args below meth c H locs k.1 k.2 Q (F0 mid pc ls (st.map (ai_vm G))) := by
  obtain ⟨hx, hb, hml, hown, hts, hnm, hE, hK, hfr, hlo, hmc, hmz, hn0⟩ := hX
  simp only [ai_stepI] at h
  cases h
  exact lv_sipush hx hb hd rfl (kk _ _ _ hJ hL)
theorem ai_s_lconst {n : Fin 2} (hX : ai_X G m d p R s mid args meth c) (hJ : ai_J G s w H locs) (hL : ai_Lr G ls m.1.2.2.1 L) (h : ai_stepI m (.lconst n) pc L st k w = some c') (hd : decode m.1.2.1 pc = .ok (.lconst n, 1)) (kk : ai_KK G m p l e R s mid args below meth c Q c') : W p l e R s mid args below meth c H locs k.1 k.2 Q (F0 mid pc ls (st.map (ai_vm G))) := by
  obtain ⟨hx, hb, hml, hown, hts, hnm, hE, hK, hfr, hlo, hmc, hmz, hn0⟩ := hX
  simp only [ai_stepI] at h
  cases h
  exact lv_lconst hx hb hd rfl (kk _ _ _ hJ hL)
theorem ai_s_iload_n {n : Fin 4} (hX : ai_X G m d p R s mid args meth c) (hJ : ai_J G s w H locs) (hL : ai_Lr G ls m.1.2.2.1 L) (h : ai_stepI m (.iload_n n) pc L st k w = some c') (hd : decode m.1.2.1 pc = .ok (.iload_n n, 1)) (kk : ai_KK G m p l e R s mid args below meth c Q c') : W p l e R s mid args below meth c H locs k.1 k.2 Q (F0 mid pc ls (st.map (ai_vm G))) := by
  obtain ⟨hx, hb, hml, hown, hts, hnm, hE, hK, hfr, hlo, hmc, hmz, hn0⟩ := hX
  simp only [ai_stepI] at h
  split at h
  · rename_i hv
    cases h
    exact lv_iload_n hx hb hd rfl (hL.ld hv) (kk _ _ _ hJ hL)
  · cases h
theorem ai_s_iload {n : Nat} (hX : ai_X G m d p R s mid args meth c) (hJ : ai_J G s w H locs) (hL : ai_Lr G ls m.1.2.2.1 L) (h : ai_stepI m (.iload n) pc L st k w = some c') (hd : decode m.1.2.1 pc = .ok (.iload n, 2)) (kk : ai_KK G m p l e R s mid args below meth c Q c') : W p l e R s mid args below meth c H locs k.1 k.2 Q (F0 mid pc ls (st.map (ai_vm G))) := by
  obtain ⟨hx, hb, hml, hown, hts, hnm, hE, hK, hfr, hlo, hmc, hmz, hn0⟩ := hX
  simp only [ai_stepI] at h
  split at h
  · rename_i hv
    cases h
    exact lv_iload hx hb hd (hL.ld hv) (kk _ _ _ hJ hL)
  · cases h
theorem ai_s_lload_n {n : Fin 4} (hX : ai_X G m d p R s mid args meth c) (hJ : ai_J G s w H locs) (hL : ai_Lr G ls m.1.2.2.1 L) (h : ai_stepI m (.lload_n n) pc L st k w = some c') (hd : decode m.1.2.1 pc = .ok (.lload_n n, 1)) (kk : ai_KK G m p l e R s mid args below meth c Q c') : W p l e R s mid args below meth c H locs k.1 k.2 Q (F0 mid pc ls (st.map (ai_vm G))) := by
  obtain ⟨hx, hb, hml, hown, hts, hnm, hE, hK, hfr, hlo, hmc, hmz, hn0⟩ := hX
  simp only [ai_stepI] at h
  split at h
  · rename_i hv
    cases h
    exact lv_lload_n hx hb hd rfl (hL.ld hv) (kk _ _ _ hJ hL)
  · cases h
theorem ai_s_lload {n : Nat} (hX : ai_X G m d p R s mid args meth c) (hJ : ai_J G s w H locs) (hL : ai_Lr G ls m.1.2.2.1 L) (h : ai_stepI m (.lload n) pc L st k w = some c') (hd : decode m.1.2.1 pc = .ok (.lload n, 2)) (kk : ai_KK G m p l e R s mid args below meth c Q c') : W p l e R s mid args below meth c H locs k.1 k.2 Q (F0 mid pc ls (st.map (ai_vm G))) := by
  obtain ⟨hx, hb, hml, hown, hts, hnm, hE, hK, hfr, hlo, hmc, hmz, hn0⟩ := hX
  simp only [ai_stepI] at h
  split at h
  · rename_i hv
    cases h
    exact lv_lload hx hb hd (hL.ld hv) (kk _ _ _ hJ hL)
  · cases h
theorem ai_s_aload_n {n : Fin 4} (hX : ai_X G m d p R s mid args meth c) (hJ : ai_J G s w H locs) (hL : ai_Lr G ls m.1.2.2.1 L) (h : ai_stepI m (.aload_n n) pc L st k w = some c') (hd : decode m.1.2.1 pc = .ok (.aload_n n, 1)) (kk : ai_KK G m p l e R s mid args below meth c Q c') : W p l e R s mid args below meth c H locs k.1 k.2 Q (F0 mid pc ls (st.map (ai_vm G))) := by
  obtain ⟨hx, hb, hml, hown, hts, hnm, hE, hK, hfr, hlo, hmc, hmz, hn0⟩ := hX
  simp only [ai_stepI] at h
  split at h
  · rename_i hv
    cases h
    exact lv_aload_n hx hb hd rfl (hL.ld hv) (kk _ _ _ hJ hL)
  · cases h
theorem ai_s_aload {n : Nat} (hX : ai_X G m d p R s mid args meth c) (hJ : ai_J G s w H locs) (hL : ai_Lr G ls m.1.2.2.1 L) (h : ai_stepI m (.aload n) pc L st k w = some c') (hd : decode m.1.2.1 pc = .ok (.aload n, 2)) (kk : ai_KK G m p l e R s mid args below meth c Q c') : W p l e R s mid args below meth c H locs k.1 k.2 Q (F0 mid pc ls (st.map (ai_vm G))) := by
  obtain ⟨hx, hb, hml, hown, hts, hnm, hE, hK, hfr, hlo, hmc, hmz, hn0⟩ := hX
  simp only [ai_stepI] at h
  split at h
  · rename_i hv
    cases h
    exact lv_aload hx hb hd (hL.ld hv) (kk _ _ _ hJ hL)
  · cases h
theorem ai_s_istore_n {n : Fin 4} (hX : ai_X G m d p R s mid args meth c) (hJ : ai_J G s w H locs) (hL : ai_Lr G ls m.1.2.2.1 L) (h : ai_stepI m (.istore_n n) pc L st k w = some c') (hd : decode m.1.2.1 pc = .ok (.istore_n n, 1)) (kk : ai_KK G m p l e R s mid args below meth c Q c') : W p l e R s mid args below meth c H locs k.1 k.2 Q (F0 mid pc ls (st.map (ai_vm G))) := by
  obtain ⟨hx, hb, hml, hown, hts, hnm, hE, hK, hfr, hlo, hmc, hmz, hn0⟩ := hX
  simp only [ai_stepI] at h
  split at h
  · split at h
    · rename_i hn
      cases h
      exact lv_istore_n hx hb hd rfl hL.has hn rfl (fun ls' hl => kk _ _ _ hJ (ai_Lr.st1 hl))
    · cases h
  · cases h
theorem ai_s_istore {n : Nat} (hX : ai_X G m d p R s mid args meth c) (hJ : ai_J G s w H locs) (hL : ai_Lr G ls m.1.2.2.1 L) (h : ai_stepI m (.istore n) pc L st k w = some c') (hd : decode m.1.2.1 pc = .ok (.istore n, 2)) (kk : ai_KK G m p l e R s mid args below meth c Q c') : W p l e R s mid args below meth c H locs k.1 k.2 Q (F0 mid pc ls (st.map (ai_vm G))) := by
  obtain ⟨hx, hb, hml, hown, hts, hnm, hE, hK, hfr, hlo, hmc, hmz, hn0⟩ := hX
  simp only [ai_stepI] at h
  split at h
  · split at h
    · rename_i hn
      cases h
      exact lv_istore hx hb hd hL.has hn rfl (fun ls' hl => kk _ _ _ hJ (ai_Lr.st1 hl))
    · cases h
  · cases h
theorem ai_s_lstore_n {n : Fin 4} (hX : ai_X G m d p R s mid args meth c) (hJ : ai_J G s w H locs) (hL : ai_Lr G ls m.1.2.2.1 L) (h : ai_stepI m (.lstore_n n) pc L st k w = some c') (hd : decode m.1.2.1 pc = .ok (.lstore_n n, 1)) (kk : ai_KK G m p l e R s mid args below meth c Q c') : W p l e R s mid args below meth c H locs k.1 k.2 Q (F0 mid pc ls (st.map (ai_vm G))) := by
  obtain ⟨hx, hb, hml, hown, hts, hnm, hE, hK, hfr, hlo, hmc, hmz, hn0⟩ := hX
  simp only [ai_stepI] at h
  split at h
  · split at h
    · rename_i hn
      cases h
      exact lv_lstore_n hx hb hd rfl hL.has hn rfl (fun ls' hl => kk _ _ _ hJ (ai_Lr.st2 hl))
    · cases h
  · cases h
theorem ai_s_lstore {n : Nat} (hX : ai_X G m d p R s mid args meth c) (hJ : ai_J G s w H locs) (hL : ai_Lr G ls m.1.2.2.1 L) (h : ai_stepI m (.lstore n) pc L st k w = some c') (hd : decode m.1.2.1 pc = .ok (.lstore n, 2)) (kk : ai_KK G m p l e R s mid args below meth c Q c') : W p l e R s mid args below meth c H locs k.1 k.2 Q (F0 mid pc ls (st.map (ai_vm G))) := by
  obtain ⟨hx, hb, hml, hown, hts, hnm, hE, hK, hfr, hlo, hmc, hmz, hn0⟩ := hX
  simp only [ai_stepI] at h
  split at h
  · split at h
    · rename_i hn
      cases h
      exact lv_lstore hx hb hd hL.has hn rfl (fun ls' hl => kk _ _ _ hJ (ai_Lr.st2 hl))
    · cases h
  · cases h
theorem ai_s_astore_n {n : Fin 4} (hX : ai_X G m d p R s mid args meth c) (hJ : ai_J G s w H locs) (hL : ai_Lr G ls m.1.2.2.1 L) (h : ai_stepI m (.astore_n n) pc L st k w = some c') (hd : decode m.1.2.1 pc = .ok (.astore_n n, 1)) (kk : ai_KK G m p l e R s mid args below meth c Q c') : W p l e R s mid args below meth c H locs k.1 k.2 Q (F0 mid pc ls (st.map (ai_vm G))) := by
  obtain ⟨hx, hb, hml, hown, hts, hnm, hE, hK, hfr, hlo, hmc, hmz, hn0⟩ := hX
  simp only [ai_stepI] at h
  split at h
  · split at h
    · rename_i hn
      cases h
      exact lv_astore_n hx hb hd rfl hL.has hn rfl (fun ls' hl => kk _ _ _ hJ (ai_Lr.st1 hl))
    · cases h
  · cases h
theorem ai_s_astore {n : Nat} (hX : ai_X G m d p R s mid args meth c) (hJ : ai_J G s w H locs) (hL : ai_Lr G ls m.1.2.2.1 L) (h : ai_stepI m (.astore n) pc L st k w = some c') (hd : decode m.1.2.1 pc = .ok (.astore n, 2)) (kk : ai_KK G m p l e R s mid args below meth c Q c') : W p l e R s mid args below meth c H locs k.1 k.2 Q (F0 mid pc ls (st.map (ai_vm G))) := by
  obtain ⟨hx, hb, hml, hown, hts, hnm, hE, hK, hfr, hlo, hmc, hmz, hn0⟩ := hX
  simp only [ai_stepI] at h
  split at h
  · split at h
    · rename_i hn
      cases h
      exact lv_astore hx hb hd hL.has hn rfl (fun ls' hl => kk _ _ _ hJ (ai_Lr.st1 hl))
    · cases h
  · cases h
theorem ai_s_iinc {n : Nat} {z : Int} (hX : ai_X G m d p R s mid args meth c) (hJ : ai_J G s w H locs) (hL : ai_Lr G ls m.1.2.2.1 L) (h : ai_stepI m (.iinc n z) pc L st k w = some c') (hd : decode m.1.2.1 pc = .ok (.iinc n z, 3)) (kk : ai_KK G m p l e R s mid args below meth c Q c') : W p l e R s mid args below meth c H locs k.1 k.2 Q (F0 mid pc ls (st.map (ai_vm G))) := by
  obtain ⟨hx, hb, hml, hown, hts, hnm, hE, hK, hfr, hlo, hmc, hmz, hn0⟩ := hX
  simp only [ai_stepI] at h
  split at h
  · rename_i hv
    split at h
    · rename_i hn
      cases h
      have hm := ai_ll_mem (G := G) (L := L) (q := (n, .int _)) |>.mpr ⟨_, by
        unfold ai_ld at hv
        cases hz : L[n]? with
        | none => rw [hz] at hv; cases hv
        | some o => rw [hz] at hv; exact congrArg some hv, rfl⟩
      obtain ⟨k0, hk0⟩ := List.getElem?_of_mem hm
      exact lv_iinc hx hb hd hL.has hk0 rfl hn rfl (fun ls' hl => kk _ _ _ hJ (ai_Lr.st1 hl))
    · cases h
  · cases h
theorem ai_s_iadd  (hX : ai_X G m d p R s mid args meth c) (hJ : ai_J G s w H locs) (hL : ai_Lr G ls m.1.2.2.1 L) (h : ai_stepI m (.iadd) pc L st k w = some c') (hd : decode m.1.2.1 pc = .ok (.iadd, 1)) (kk : ai_KK G m p l e R s mid args below meth c Q c') : W p l e R s mid args below meth c H locs k.1 k.2 Q (F0 mid pc ls (st.map (ai_vm G))) := by
  obtain ⟨hx, hb, hml, hown, hts, hnm, hE, hK, hfr, hlo, hmc, hmz, hn0⟩ := hX
  simp only [ai_stepI] at h
  split at h
  · cases h
    exact lv_iadd hx hb hd (kk _ _ _ hJ hL)
  · cases h
theorem ai_s_isub  (hX : ai_X G m d p R s mid args meth c) (hJ : ai_J G s w H locs) (hL : ai_Lr G ls m.1.2.2.1 L) (h : ai_stepI m (.isub) pc L st k w = some c') (hd : decode m.1.2.1 pc = .ok (.isub, 1)) (kk : ai_KK G m p l e R s mid args below meth c Q c') : W p l e R s mid args below meth c H locs k.1 k.2 Q (F0 mid pc ls (st.map (ai_vm G))) := by
  obtain ⟨hx, hb, hml, hown, hts, hnm, hE, hK, hfr, hlo, hmc, hmz, hn0⟩ := hX
  simp only [ai_stepI] at h
  split at h
  · cases h
    exact lv_isub hx hb hd (kk _ _ _ hJ hL)
  · cases h
theorem ai_s_imul  (hX : ai_X G m d p R s mid args meth c) (hJ : ai_J G s w H locs) (hL : ai_Lr G ls m.1.2.2.1 L) (h : ai_stepI m (.imul) pc L st k w = some c') (hd : decode m.1.2.1 pc = .ok (.imul, 1)) (kk : ai_KK G m p l e R s mid args below meth c Q c') : W p l e R s mid args below meth c H locs k.1 k.2 Q (F0 mid pc ls (st.map (ai_vm G))) := by
  obtain ⟨hx, hb, hml, hown, hts, hnm, hE, hK, hfr, hlo, hmc, hmz, hn0⟩ := hX
  simp only [ai_stepI] at h
  split at h
  · cases h
    exact lv_imul hx hb hd (kk _ _ _ hJ hL)
  · cases h
theorem ai_s_iand  (hX : ai_X G m d p R s mid args meth c) (hJ : ai_J G s w H locs) (hL : ai_Lr G ls m.1.2.2.1 L) (h : ai_stepI m (.iand) pc L st k w = some c') (hd : decode m.1.2.1 pc = .ok (.iand, 1)) (kk : ai_KK G m p l e R s mid args below meth c Q c') : W p l e R s mid args below meth c H locs k.1 k.2 Q (F0 mid pc ls (st.map (ai_vm G))) := by
  obtain ⟨hx, hb, hml, hown, hts, hnm, hE, hK, hfr, hlo, hmc, hmz, hn0⟩ := hX
  simp only [ai_stepI] at h
  split at h
  · cases h
    exact lv_iand hx hb hd (kk _ _ _ hJ hL)
  · cases h
theorem ai_s_ior  (hX : ai_X G m d p R s mid args meth c) (hJ : ai_J G s w H locs) (hL : ai_Lr G ls m.1.2.2.1 L) (h : ai_stepI m (.ior) pc L st k w = some c') (hd : decode m.1.2.1 pc = .ok (.ior, 1)) (kk : ai_KK G m p l e R s mid args below meth c Q c') : W p l e R s mid args below meth c H locs k.1 k.2 Q (F0 mid pc ls (st.map (ai_vm G))) := by
  obtain ⟨hx, hb, hml, hown, hts, hnm, hE, hK, hfr, hlo, hmc, hmz, hn0⟩ := hX
  simp only [ai_stepI] at h
  split at h
  · cases h
    exact lv_ior hx hb hd (kk _ _ _ hJ hL)
  · cases h
theorem ai_s_ixor  (hX : ai_X G m d p R s mid args meth c) (hJ : ai_J G s w H locs) (hL : ai_Lr G ls m.1.2.2.1 L) (h : ai_stepI m (.ixor) pc L st k w = some c') (hd : decode m.1.2.1 pc = .ok (.ixor, 1)) (kk : ai_KK G m p l e R s mid args below meth c Q c') : W p l e R s mid args below meth c H locs k.1 k.2 Q (F0 mid pc ls (st.map (ai_vm G))) := by
  obtain ⟨hx, hb, hml, hown, hts, hnm, hE, hK, hfr, hlo, hmc, hmz, hn0⟩ := hX
  simp only [ai_stepI] at h
  split at h
  · cases h
    exact lv_ixor hx hb hd (kk _ _ _ hJ hL)
  · cases h
theorem ai_s_ishl  (hX : ai_X G m d p R s mid args meth c) (hJ : ai_J G s w H locs) (hL : ai_Lr G ls m.1.2.2.1 L) (h : ai_stepI m (.ishl) pc L st k w = some c') (hd : decode m.1.2.1 pc = .ok (.ishl, 1)) (kk : ai_KK G m p l e R s mid args below meth c Q c') : W p l e R s mid args below meth c H locs k.1 k.2 Q (F0 mid pc ls (st.map (ai_vm G))) := by
  obtain ⟨hx, hb, hml, hown, hts, hnm, hE, hK, hfr, hlo, hmc, hmz, hn0⟩ := hX
  simp only [ai_stepI] at h
  split at h
  · cases h
    exact lv_ishl hx hb hd (kk _ _ _ hJ hL)
  · cases h
theorem ai_s_ishr  (hX : ai_X G m d p R s mid args meth c) (hJ : ai_J G s w H locs) (hL : ai_Lr G ls m.1.2.2.1 L) (h : ai_stepI m (.ishr) pc L st k w = some c') (hd : decode m.1.2.1 pc = .ok (.ishr, 1)) (kk : ai_KK G m p l e R s mid args below meth c Q c') : W p l e R s mid args below meth c H locs k.1 k.2 Q (F0 mid pc ls (st.map (ai_vm G))) := by
  obtain ⟨hx, hb, hml, hown, hts, hnm, hE, hK, hfr, hlo, hmc, hmz, hn0⟩ := hX
  simp only [ai_stepI] at h
  split at h
  · cases h
    exact lv_ishr hx hb hd (kk _ _ _ hJ hL)
  · cases h
theorem ai_s_ineg  (hX : ai_X G m d p R s mid args meth c) (hJ : ai_J G s w H locs) (hL : ai_Lr G ls m.1.2.2.1 L) (h : ai_stepI m (.ineg) pc L st k w = some c') (hd : decode m.1.2.1 pc = .ok (.ineg, 1)) (kk : ai_KK G m p l e R s mid args below meth c Q c') : W p l e R s mid args below meth c H locs k.1 k.2 Q (F0 mid pc ls (st.map (ai_vm G))) := by
  obtain ⟨hx, hb, hml, hown, hts, hnm, hE, hK, hfr, hlo, hmc, hmz, hn0⟩ := hX
  simp only [ai_stepI] at h
  split at h
  · cases h
    exact lv_ineg hx hb hd (kk _ _ _ hJ hL)
  · cases h
theorem ai_s_ladd  (hX : ai_X G m d p R s mid args meth c) (hJ : ai_J G s w H locs) (hL : ai_Lr G ls m.1.2.2.1 L) (h : ai_stepI m (.ladd) pc L st k w = some c') (hd : decode m.1.2.1 pc = .ok (.ladd, 1)) (kk : ai_KK G m p l e R s mid args below meth c Q c') : W p l e R s mid args below meth c H locs k.1 k.2 Q (F0 mid pc ls (st.map (ai_vm G))) := by
  obtain ⟨hx, hb, hml, hown, hts, hnm, hE, hK, hfr, hlo, hmc, hmz, hn0⟩ := hX
  simp only [ai_stepI] at h
  split at h
  · cases h
    exact lv_ladd hx hb hd (kk _ _ _ hJ hL)
  · cases h
theorem ai_s_lsub  (hX : ai_X G m d p R s mid args meth c) (hJ : ai_J G s w H locs) (hL : ai_Lr G ls m.1.2.2.1 L) (h : ai_stepI m (.lsub) pc L st k w = some c') (hd : decode m.1.2.1 pc = .ok (.lsub, 1)) (kk : ai_KK G m p l e R s mid args below meth c Q c') : W p l e R s mid args below meth c H locs k.1 k.2 Q (F0 mid pc ls (st.map (ai_vm G))) := by
  obtain ⟨hx, hb, hml, hown, hts, hnm, hE, hK, hfr, hlo, hmc, hmz, hn0⟩ := hX
  simp only [ai_stepI] at h
  split at h
  · cases h
    exact lv_lsub hx hb hd (kk _ _ _ hJ hL)
  · cases h
theorem ai_s_lmul  (hX : ai_X G m d p R s mid args meth c) (hJ : ai_J G s w H locs) (hL : ai_Lr G ls m.1.2.2.1 L) (h : ai_stepI m (.lmul) pc L st k w = some c') (hd : decode m.1.2.1 pc = .ok (.lmul, 1)) (kk : ai_KK G m p l e R s mid args below meth c Q c') : W p l e R s mid args below meth c H locs k.1 k.2 Q (F0 mid pc ls (st.map (ai_vm G))) := by
  obtain ⟨hx, hb, hml, hown, hts, hnm, hE, hK, hfr, hlo, hmc, hmz, hn0⟩ := hX
  simp only [ai_stepI] at h
  split at h
  · cases h
    exact lv_lmul hx hb hd (kk _ _ _ hJ hL)
  · cases h
theorem ai_s_lneg  (hX : ai_X G m d p R s mid args meth c) (hJ : ai_J G s w H locs) (hL : ai_Lr G ls m.1.2.2.1 L) (h : ai_stepI m (.lneg) pc L st k w = some c') (hd : decode m.1.2.1 pc = .ok (.lneg, 1)) (kk : ai_KK G m p l e R s mid args below meth c Q c') : W p l e R s mid args below meth c H locs k.1 k.2 Q (F0 mid pc ls (st.map (ai_vm G))) := by
  obtain ⟨hx, hb, hml, hown, hts, hnm, hE, hK, hfr, hlo, hmc, hmz, hn0⟩ := hX
  simp only [ai_stepI] at h
  split at h
  · cases h
    exact lv_lneg hx hb hd (kk _ _ _ hJ hL)
  · cases h
theorem ai_s_iushr  (hX : ai_X G m d p R s mid args meth c) (hJ : ai_J G s w H locs) (hL : ai_Lr G ls m.1.2.2.1 L) (h : ai_stepI m (.iushr) pc L st k w = some c') (hd : decode m.1.2.1 pc = .ok (.iushr, 1)) (kk : ai_KK G m p l e R s mid args below meth c Q c') : W p l e R s mid args below meth c H locs k.1 k.2 Q (F0 mid pc ls (st.map (ai_vm G))) := by
  obtain ⟨hx, hb, hml, hown, hts, hnm, hE, hK, hfr, hlo, hmc, hmz, hn0⟩ := hX
  simp only [ai_stepI] at h
  split at h
  · cases h
    exact lv_iushr hx hb hd rfl (kk _ _ _ hJ hL)
  · cases h
theorem ai_s_lcmp  (hX : ai_X G m d p R s mid args meth c) (hJ : ai_J G s w H locs) (hL : ai_Lr G ls m.1.2.2.1 L) (h : ai_stepI m (.lcmp) pc L st k w = some c') (hd : decode m.1.2.1 pc = .ok (.lcmp, 1)) (kk : ai_KK G m p l e R s mid args below meth c Q c') : W p l e R s mid args below meth c H locs k.1 k.2 Q (F0 mid pc ls (st.map (ai_vm G))) := by
  obtain ⟨hx, hb, hml, hown, hts, hnm, hE, hK, hfr, hlo, hmc, hmz, hn0⟩ := hX
  simp only [ai_stepI] at h
  split at h
  · cases h
    exact W.lcmp hx hb hd (kk _ _ _ hJ hL)
  · cases h
theorem ai_s_i2l  (hX : ai_X G m d p R s mid args meth c) (hJ : ai_J G s w H locs) (hL : ai_Lr G ls m.1.2.2.1 L) (h : ai_stepI m (.i2l) pc L st k w = some c') (hd : decode m.1.2.1 pc = .ok (.i2l, 1)) (kk : ai_KK G m p l e R s mid args below meth c Q c') : W p l e R s mid args below meth c H locs k.1 k.2 Q (F0 mid pc ls (st.map (ai_vm G))) := by
  obtain ⟨hx, hb, hml, hown, hts, hnm, hE, hK, hfr, hlo, hmc, hmz, hn0⟩ := hX
  simp only [ai_stepI] at h
  split at h
  · cases h
    exact lv_i2l hx hb hd rfl (kk _ _ _ hJ hL)
  · cases h
theorem ai_s_l2i  (hX : ai_X G m d p R s mid args meth c) (hJ : ai_J G s w H locs) (hL : ai_Lr G ls m.1.2.2.1 L) (h : ai_stepI m (.l2i) pc L st k w = some c') (hd : decode m.1.2.1 pc = .ok (.l2i, 1)) (kk : ai_KK G m p l e R s mid args below meth c Q c') : W p l e R s mid args below meth c H locs k.1 k.2 Q (F0 mid pc ls (st.map (ai_vm G))) := by
  obtain ⟨hx, hb, hml, hown, hts, hnm, hE, hK, hfr, hlo, hmc, hmz, hn0⟩ := hX
  simp only [ai_stepI] at h
  split at h
  · cases h
    exact lv_l2i hx hb hd rfl (kk _ _ _ hJ hL)
  · cases h
theorem ai_s_i2b  (hX : ai_X G m d p R s mid args meth c) (hJ : ai_J G s w H locs) (hL : ai_Lr G ls m.1.2.2.1 L) (h : ai_stepI m (.i2b) pc L st k w = some c') (hd : decode m.1.2.1 pc = .ok (.i2b, 1)) (kk : ai_KK G m p l e R s mid args below meth c Q c') : W p l e R s mid args below meth c H locs k.1 k.2 Q (F0 mid pc ls (st.map (ai_vm G))) := by
  obtain ⟨hx, hb, hml, hown, hts, hnm, hE, hK, hfr, hlo, hmc, hmz, hn0⟩ := hX
  simp only [ai_stepI] at h
  split at h
  · cases h
    exact lv_i2b hx hb hd rfl (kk _ _ _ hJ hL)
  · cases h
theorem ai_s_i2s  (hX : ai_X G m d p R s mid args meth c) (hJ : ai_J G s w H locs) (hL : ai_Lr G ls m.1.2.2.1 L) (h : ai_stepI m (.i2s) pc L st k w = some c') (hd : decode m.1.2.1 pc = .ok (.i2s, 1)) (kk : ai_KK G m p l e R s mid args below meth c Q c') : W p l e R s mid args below meth c H locs k.1 k.2 Q (F0 mid pc ls (st.map (ai_vm G))) := by
  obtain ⟨hx, hb, hml, hown, hts, hnm, hE, hK, hfr, hlo, hmc, hmz, hn0⟩ := hX
  simp only [ai_stepI] at h
  split at h
  · cases h
    exact lv_i2s hx hb hd rfl (kk _ _ _ hJ hL)
  · cases h
theorem ai_s_i2c  (hX : ai_X G m d p R s mid args meth c) (hJ : ai_J G s w H locs) (hL : ai_Lr G ls m.1.2.2.1 L) (h : ai_stepI m (.i2c) pc L st k w = some c') (hd : decode m.1.2.1 pc = .ok (.i2c, 1)) (kk : ai_KK G m p l e R s mid args below meth c Q c') : W p l e R s mid args below meth c H locs k.1 k.2 Q (F0 mid pc ls (st.map (ai_vm G))) := by
  obtain ⟨hx, hb, hml, hown, hts, hnm, hE, hK, hfr, hlo, hmc, hmz, hn0⟩ := hX
  simp only [ai_stepI] at h
  split at h
  · cases h
    exact lv_i2c hx hb hd rfl (kk _ _ _ hJ hL)
  · cases h
theorem ai_s_idiv  (hX : ai_X G m d p R s mid args meth c) (hJ : ai_J G s w H locs) (hL : ai_Lr G ls m.1.2.2.1 L) (h : ai_stepI m (.idiv) pc L st k w = some c') (hd : decode m.1.2.1 pc = .ok (.idiv, 1)) (kk : ai_KK G m p l e R s mid args below meth c Q c') : W p l e R s mid args below meth c H locs k.1 k.2 Q (F0 mid pc ls (st.map (ai_vm G))) := by
  obtain ⟨hx, hb, hml, hown, hts, hnm, hE, hK, hfr, hlo, hmc, hmz, hn0⟩ := hX
  simp only [ai_stepI] at h
  split at h
  · split at h
    · cases h
    · rename_i hy
      cases h
      exact lv_idiv hx hb hd hy (kk _ _ _ hJ hL)
  · cases h
theorem ai_s_irem  (hX : ai_X G m d p R s mid args meth c) (hJ : ai_J G s w H locs) (hL : ai_Lr G ls m.1.2.2.1 L) (h : ai_stepI m (.irem) pc L st k w = some c') (hd : decode m.1.2.1 pc = .ok (.irem, 1)) (kk : ai_KK G m p l e R s mid args below meth c Q c') : W p l e R s mid args below meth c H locs k.1 k.2 Q (F0 mid pc ls (st.map (ai_vm G))) := by
  obtain ⟨hx, hb, hml, hown, hts, hnm, hE, hK, hfr, hlo, hmc, hmz, hn0⟩ := hX
  simp only [ai_stepI] at h
  split at h
  · split at h
    · cases h
    · rename_i hy
      cases h
      exact lv_irem hx hb hd hy (kk _ _ _ hJ hL)
  · cases h
theorem ai_s_ldiv  (hX : ai_X G m d p R s mid args meth c) (hJ : ai_J G s w H locs) (hL : ai_Lr G ls m.1.2.2.1 L) (h : ai_stepI m (.ldiv) pc L st k w = some c') (hd : decode m.1.2.1 pc = .ok (.ldiv, 1)) (kk : ai_KK G m p l e R s mid args below meth c Q c') : W p l e R s mid args below meth c H locs k.1 k.2 Q (F0 mid pc ls (st.map (ai_vm G))) := by
  obtain ⟨hx, hb, hml, hown, hts, hnm, hE, hK, hfr, hlo, hmc, hmz, hn0⟩ := hX
  simp only [ai_stepI] at h
  split at h
  · split at h
    · cases h
    · rename_i hy
      cases h
      exact lv_ldiv hx hb hd hy (kk _ _ _ hJ hL)
  · cases h
theorem ai_s_lrem  (hX : ai_X G m d p R s mid args meth c) (hJ : ai_J G s w H locs) (hL : ai_Lr G ls m.1.2.2.1 L) (h : ai_stepI m (.lrem) pc L st k w = some c') (hd : decode m.1.2.1 pc = .ok (.lrem, 1)) (kk : ai_KK G m p l e R s mid args below meth c Q c') : W p l e R s mid args below meth c H locs k.1 k.2 Q (F0 mid pc ls (st.map (ai_vm G))) := by
  obtain ⟨hx, hb, hml, hown, hts, hnm, hE, hK, hfr, hlo, hmc, hmz, hn0⟩ := hX
  simp only [ai_stepI] at h
  split at h
  · split at h
    · cases h
    · rename_i hy
      cases h
      exact lv_lrem hx hb hd hy (kk _ _ _ hJ hL)
  · cases h
theorem ai_s_dup  (hX : ai_X G m d p R s mid args meth c) (hJ : ai_J G s w H locs) (hL : ai_Lr G ls m.1.2.2.1 L) (h : ai_stepI m (.dup) pc L st k w = some c') (hd : decode m.1.2.1 pc = .ok (.dup, 1)) (kk : ai_KK G m p l e R s mid args below meth c Q c') : W p l e R s mid args below meth c H locs k.1 k.2 Q (F0 mid pc ls (st.map (ai_vm G))) := by
  obtain ⟨hx, hb, hml, hown, hts, hnm, hE, hK, hfr, hlo, hmc, hmz, hn0⟩ := hX
  simp only [ai_stepI] at h
  split at h
  · split at h
    · rename_i hc
      cases h
      exact lv_dup hx hb hd (by rw [ai_vm_cat]; exact hc) (kk _ _ _ hJ hL)
    · cases h
  · cases h
theorem ai_s_pop  (hX : ai_X G m d p R s mid args meth c) (hJ : ai_J G s w H locs) (hL : ai_Lr G ls m.1.2.2.1 L) (h : ai_stepI m (.pop) pc L st k w = some c') (hd : decode m.1.2.1 pc = .ok (.pop, 1)) (kk : ai_KK G m p l e R s mid args below meth c Q c') : W p l e R s mid args below meth c H locs k.1 k.2 Q (F0 mid pc ls (st.map (ai_vm G))) := by
  obtain ⟨hx, hb, hml, hown, hts, hnm, hE, hK, hfr, hlo, hmc, hmz, hn0⟩ := hX
  simp only [ai_stepI] at h
  split at h
  · split at h
    · rename_i hc
      cases h
      exact lv_pop hx hb hd (by rw [ai_vm_cat]; exact hc) (kk _ _ _ hJ hL)
    · cases h
  · cases h
theorem ai_s_dup_x1  (hX : ai_X G m d p R s mid args meth c) (hJ : ai_J G s w H locs) (hL : ai_Lr G ls m.1.2.2.1 L) (h : ai_stepI m (.dup_x1) pc L st k w = some c') (hd : decode m.1.2.1 pc = .ok (.dup_x1, 1)) (kk : ai_KK G m p l e R s mid args below meth c Q c') : W p l e R s mid args below meth c H locs k.1 k.2 Q (F0 mid pc ls (st.map (ai_vm G))) := by
  obtain ⟨hx, hb, hml, hown, hts, hnm, hE, hK, hfr, hlo, hmc, hmz, hn0⟩ := hX
  simp only [ai_stepI] at h
  split at h
  · split at h
    · rename_i hc
      cases h
      exact lv_dup_x1 hx hb hd (by rw [ai_vm_cat]; exact hc.1) (by rw [ai_vm_cat]; exact hc.2) (kk _ _ _ hJ hL)
    · cases h
  · cases h
theorem ai_s_ifCond_eq {off : Int} (hX : ai_X G m d p R s mid args meth c) (hJ : ai_J G s w H locs) (hL : ai_Lr G ls m.1.2.2.1 L) (h : ai_stepI m (.ifCond .eq off) pc L st k w = some c') (hd : decode m.1.2.1 pc = .ok (.ifCond .eq off, 3)) (kk : ai_KK G m p l e R s mid args below meth c Q c') : W p l e R s mid args below meth c H locs k.1 k.2 Q (F0 mid pc ls (st.map (ai_vm G))) := by
  obtain ⟨hx, hb, hml, hown, hts, hnm, hE, hK, hfr, hlo, hmc, hmz, hn0⟩ := hX
  simp only [ai_stepI] at h
  split at h
  · unfold ai_br at h
    split at h
    · rename_i ho
      refine lv_if_eq hx hb hd (ai_tg_eq ho) (fun hc => ?_) (fun hc => ?_)
      · rw [if_pos (by simpa [ai_cond] using hc)] at h
        cases h
        exact kk _ _ _ hJ hL
      · rw [if_neg (by simpa [ai_cond] using hc)] at h
        cases h
        exact kk _ _ _ hJ hL
    · cases h
  · cases h
theorem ai_s_ifCond_ne {off : Int} (hX : ai_X G m d p R s mid args meth c) (hJ : ai_J G s w H locs) (hL : ai_Lr G ls m.1.2.2.1 L) (h : ai_stepI m (.ifCond .ne off) pc L st k w = some c') (hd : decode m.1.2.1 pc = .ok (.ifCond .ne off, 3)) (kk : ai_KK G m p l e R s mid args below meth c Q c') : W p l e R s mid args below meth c H locs k.1 k.2 Q (F0 mid pc ls (st.map (ai_vm G))) := by
  obtain ⟨hx, hb, hml, hown, hts, hnm, hE, hK, hfr, hlo, hmc, hmz, hn0⟩ := hX
  simp only [ai_stepI] at h
  split at h
  · unfold ai_br at h
    split at h
    · rename_i ho
      refine lv_if_ne hx hb hd (ai_tg_eq ho) (fun hc => ?_) (fun hc => ?_)
      · rw [if_pos (by simpa [ai_cond] using hc)] at h
        cases h
        exact kk _ _ _ hJ hL
      · rw [if_neg (by simpa [ai_cond] using hc)] at h
        cases h
        exact kk _ _ _ hJ hL
    · cases h
  · cases h
theorem ai_s_ifCond_lt {off : Int} (hX : ai_X G m d p R s mid args meth c) (hJ : ai_J G s w H locs) (hL : ai_Lr G ls m.1.2.2.1 L) (h : ai_stepI m (.ifCond .lt off) pc L st k w = some c') (hd : decode m.1.2.1 pc = .ok (.ifCond .lt off, 3)) (kk : ai_KK G m p l e R s mid args below meth c Q c') : W p l e R s mid args below meth c H locs k.1 k.2 Q (F0 mid pc ls (st.map (ai_vm G))) := by
  obtain ⟨hx, hb, hml, hown, hts, hnm, hE, hK, hfr, hlo, hmc, hmz, hn0⟩ := hX
  simp only [ai_stepI] at h
  split at h
  · unfold ai_br at h
    split at h
    · rename_i ho
      refine lv_if_lt hx hb hd (ai_tg_eq ho) (fun hc => ?_) (fun hc => ?_)
      · rw [if_pos (by simpa [ai_cond] using hc)] at h
        cases h
        exact kk _ _ _ hJ hL
      · rw [if_neg (by simpa [ai_cond] using hc)] at h
        cases h
        exact kk _ _ _ hJ hL
    · cases h
  · cases h
theorem ai_s_ifCond_ge {off : Int} (hX : ai_X G m d p R s mid args meth c) (hJ : ai_J G s w H locs) (hL : ai_Lr G ls m.1.2.2.1 L) (h : ai_stepI m (.ifCond .ge off) pc L st k w = some c') (hd : decode m.1.2.1 pc = .ok (.ifCond .ge off, 3)) (kk : ai_KK G m p l e R s mid args below meth c Q c') : W p l e R s mid args below meth c H locs k.1 k.2 Q (F0 mid pc ls (st.map (ai_vm G))) := by
  obtain ⟨hx, hb, hml, hown, hts, hnm, hE, hK, hfr, hlo, hmc, hmz, hn0⟩ := hX
  simp only [ai_stepI] at h
  split at h
  · unfold ai_br at h
    split at h
    · rename_i ho
      refine lv_if_ge hx hb hd (ai_tg_eq ho) (fun hc => ?_) (fun hc => ?_)
      · rw [if_pos (by simpa [ai_cond] using hc)] at h
        cases h
        exact kk _ _ _ hJ hL
      · rw [if_neg (by simpa [ai_cond] using hc)] at h
        cases h
        exact kk _ _ _ hJ hL
    · cases h
  · cases h
theorem ai_s_ifCond_gt {off : Int} (hX : ai_X G m d p R s mid args meth c) (hJ : ai_J G s w H locs) (hL : ai_Lr G ls m.1.2.2.1 L) (h : ai_stepI m (.ifCond .gt off) pc L st k w = some c') (hd : decode m.1.2.1 pc = .ok (.ifCond .gt off, 3)) (kk : ai_KK G m p l e R s mid args below meth c Q c') : W p l e R s mid args below meth c H locs k.1 k.2 Q (F0 mid pc ls (st.map (ai_vm G))) := by
  obtain ⟨hx, hb, hml, hown, hts, hnm, hE, hK, hfr, hlo, hmc, hmz, hn0⟩ := hX
  simp only [ai_stepI] at h
  split at h
  · unfold ai_br at h
    split at h
    · rename_i ho
      refine lv_if_gt hx hb hd (ai_tg_eq ho) (fun hc => ?_) (fun hc => ?_)
      · rw [if_pos (by simpa [ai_cond] using hc)] at h
        cases h
        exact kk _ _ _ hJ hL
      · rw [if_neg (by simpa [ai_cond] using hc)] at h
        cases h
        exact kk _ _ _ hJ hL
    · cases h
  · cases h
theorem ai_s_ifCond_le {off : Int} (hX : ai_X G m d p R s mid args meth c) (hJ : ai_J G s w H locs) (hL : ai_Lr G ls m.1.2.2.1 L) (h : ai_stepI m (.ifCond .le off) pc L st k w = some c') (hd : decode m.1.2.1 pc = .ok (.ifCond .le off, 3)) (kk : ai_KK G m p l e R s mid args below meth c Q c') : W p l e R s mid args below meth c H locs k.1 k.2 Q (F0 mid pc ls (st.map (ai_vm G))) := by
  obtain ⟨hx, hb, hml, hown, hts, hnm, hE, hK, hfr, hlo, hmc, hmz, hn0⟩ := hX
  simp only [ai_stepI] at h
  split at h
  · unfold ai_br at h
    split at h
    · rename_i ho
      refine lv_if_le hx hb hd (ai_tg_eq ho) (fun hc => ?_) (fun hc => ?_)
      · rw [if_pos (by simpa [ai_cond] using hc)] at h
        cases h
        exact kk _ _ _ hJ hL
      · rw [if_neg (by simpa [ai_cond] using hc)] at h
        cases h
        exact kk _ _ _ hJ hL
    · cases h
  · cases h
theorem ai_s_if_icmp_eq {off : Int} (hX : ai_X G m d p R s mid args meth c) (hJ : ai_J G s w H locs) (hL : ai_Lr G ls m.1.2.2.1 L) (h : ai_stepI m (.if_icmp .eq off) pc L st k w = some c') (hd : decode m.1.2.1 pc = .ok (.if_icmp .eq off, 3)) (kk : ai_KK G m p l e R s mid args below meth c Q c') : W p l e R s mid args below meth c H locs k.1 k.2 Q (F0 mid pc ls (st.map (ai_vm G))) := by
  obtain ⟨hx, hb, hml, hown, hts, hnm, hE, hK, hfr, hlo, hmc, hmz, hn0⟩ := hX
  simp only [ai_stepI] at h
  split at h
  · unfold ai_br at h
    split at h
    · rename_i ho
      refine lv_icmp_eq hx hb hd (ai_tg_eq ho) (fun hc => ?_) (fun hc => ?_)
      · rw [if_pos (by simpa [ai_cond] using hc)] at h
        cases h
        exact kk _ _ _ hJ hL
      · rw [if_neg (by simpa [ai_cond] using hc)] at h
        cases h
        exact kk _ _ _ hJ hL
    · cases h
  · cases h
theorem ai_s_if_icmp_ne {off : Int} (hX : ai_X G m d p R s mid args meth c) (hJ : ai_J G s w H locs) (hL : ai_Lr G ls m.1.2.2.1 L) (h : ai_stepI m (.if_icmp .ne off) pc L st k w = some c') (hd : decode m.1.2.1 pc = .ok (.if_icmp .ne off, 3)) (kk : ai_KK G m p l e R s mid args below meth c Q c') : W p l e R s mid args below meth c H locs k.1 k.2 Q (F0 mid pc ls (st.map (ai_vm G))) := by
  obtain ⟨hx, hb, hml, hown, hts, hnm, hE, hK, hfr, hlo, hmc, hmz, hn0⟩ := hX
  simp only [ai_stepI] at h
  split at h
  · unfold ai_br at h
    split at h
    · rename_i ho
      refine lv_icmp_ne hx hb hd (ai_tg_eq ho) (fun hc => ?_) (fun hc => ?_)
      · rw [if_pos (by simpa [ai_cond] using hc)] at h
        cases h
        exact kk _ _ _ hJ hL
      · rw [if_neg (by simpa [ai_cond] using hc)] at h
        cases h
        exact kk _ _ _ hJ hL
    · cases h
  · cases h
theorem ai_s_if_icmp_lt {off : Int} (hX : ai_X G m d p R s mid args meth c) (hJ : ai_J G s w H locs) (hL : ai_Lr G ls m.1.2.2.1 L) (h : ai_stepI m (.if_icmp .lt off) pc L st k w = some c') (hd : decode m.1.2.1 pc = .ok (.if_icmp .lt off, 3)) (kk : ai_KK G m p l e R s mid args below meth c Q c') : W p l e R s mid args below meth c H locs k.1 k.2 Q (F0 mid pc ls (st.map (ai_vm G))) := by
  obtain ⟨hx, hb, hml, hown, hts, hnm, hE, hK, hfr, hlo, hmc, hmz, hn0⟩ := hX
  simp only [ai_stepI] at h
  split at h
  · unfold ai_br at h
    split at h
    · rename_i ho
      refine lv_icmp_lt hx hb hd (ai_tg_eq ho) (fun hc => ?_) (fun hc => ?_)
      · rw [if_pos (by simpa [ai_cond] using hc)] at h
        cases h
        exact kk _ _ _ hJ hL
      · rw [if_neg (by simpa [ai_cond] using hc)] at h
        cases h
        exact kk _ _ _ hJ hL
    · cases h
  · cases h
theorem ai_s_if_icmp_ge {off : Int} (hX : ai_X G m d p R s mid args meth c) (hJ : ai_J G s w H locs) (hL : ai_Lr G ls m.1.2.2.1 L) (h : ai_stepI m (.if_icmp .ge off) pc L st k w = some c') (hd : decode m.1.2.1 pc = .ok (.if_icmp .ge off, 3)) (kk : ai_KK G m p l e R s mid args below meth c Q c') : W p l e R s mid args below meth c H locs k.1 k.2 Q (F0 mid pc ls (st.map (ai_vm G))) := by
  obtain ⟨hx, hb, hml, hown, hts, hnm, hE, hK, hfr, hlo, hmc, hmz, hn0⟩ := hX
  simp only [ai_stepI] at h
  split at h
  · unfold ai_br at h
    split at h
    · rename_i ho
      refine lv_icmp_ge hx hb hd (ai_tg_eq ho) (fun hc => ?_) (fun hc => ?_)
      · rw [if_pos (by simpa [ai_cond] using hc)] at h
        cases h
        exact kk _ _ _ hJ hL
      · rw [if_neg (by simpa [ai_cond] using hc)] at h
        cases h
        exact kk _ _ _ hJ hL
    · cases h
  · cases h
theorem ai_s_if_icmp_gt {off : Int} (hX : ai_X G m d p R s mid args meth c) (hJ : ai_J G s w H locs) (hL : ai_Lr G ls m.1.2.2.1 L) (h : ai_stepI m (.if_icmp .gt off) pc L st k w = some c') (hd : decode m.1.2.1 pc = .ok (.if_icmp .gt off, 3)) (kk : ai_KK G m p l e R s mid args below meth c Q c') : W p l e R s mid args below meth c H locs k.1 k.2 Q (F0 mid pc ls (st.map (ai_vm G))) := by
  obtain ⟨hx, hb, hml, hown, hts, hnm, hE, hK, hfr, hlo, hmc, hmz, hn0⟩ := hX
  simp only [ai_stepI] at h
  split at h
  · unfold ai_br at h
    split at h
    · rename_i ho
      refine lv_icmp_gt hx hb hd (ai_tg_eq ho) (fun hc => ?_) (fun hc => ?_)
      · rw [if_pos (by simpa [ai_cond] using hc)] at h
        cases h
        exact kk _ _ _ hJ hL
      · rw [if_neg (by simpa [ai_cond] using hc)] at h
        cases h
        exact kk _ _ _ hJ hL
    · cases h
  · cases h
theorem ai_s_if_icmp_le {off : Int} (hX : ai_X G m d p R s mid args meth c) (hJ : ai_J G s w H locs) (hL : ai_Lr G ls m.1.2.2.1 L) (h : ai_stepI m (.if_icmp .le off) pc L st k w = some c') (hd : decode m.1.2.1 pc = .ok (.if_icmp .le off, 3)) (kk : ai_KK G m p l e R s mid args below meth c Q c') : W p l e R s mid args below meth c H locs k.1 k.2 Q (F0 mid pc ls (st.map (ai_vm G))) := by
  obtain ⟨hx, hb, hml, hown, hts, hnm, hE, hK, hfr, hlo, hmc, hmz, hn0⟩ := hX
  simp only [ai_stepI] at h
  split at h
  · unfold ai_br at h
    split at h
    · rename_i ho
      refine lv_icmp_le hx hb hd (ai_tg_eq ho) (fun hc => ?_) (fun hc => ?_)
      · rw [if_pos (by simpa [ai_cond] using hc)] at h
        cases h
        exact kk _ _ _ hJ hL
      · rw [if_neg (by simpa [ai_cond] using hc)] at h
        cases h
        exact kk _ _ _ hJ hL
    · cases h
  · cases h
theorem ai_s_ifnull {off : Int} (hX : ai_X G m d p R s mid args meth c) (hJ : ai_J G s w H locs) (hL : ai_Lr G ls m.1.2.2.1 L) (h : ai_stepI m (.ifnull off) pc L st k w = some c') (hd : decode m.1.2.1 pc = .ok (.ifnull off, 3)) (kk : ai_KK G m p l e R s mid args below meth c Q c') : W p l e R s mid args below meth c H locs k.1 k.2 Q (F0 mid pc ls (st.map (ai_vm G))) := by
  obtain ⟨hx, hb, hml, hown, hts, hnm, hE, hK, hfr, hlo, hmc, hmz, hn0⟩ := hX
  simp only [ai_stepI] at h
  split at h
  · cases h
    exact lv_ifnull hx hb hd (kk _ _ _ hJ hL)
  · split at h
    · rename_i ho
      cases h
      exact lv_ifnullN hx hb hd (ai_tg_eq ho) (kk _ _ _ hJ hL)
    · cases h
  · cases h
theorem ai_s_goto {off : Int} (hX : ai_X G m d p R s mid args meth c) (hJ : ai_J G s w H locs) (hL : ai_Lr G ls m.1.2.2.1 L) (h : ai_stepI m (.goto off) pc L st k w = some c') (hd : decode m.1.2.1 pc = .ok (.goto off, 3)) (kk : ai_KK G m p l e R s mid args below meth c Q c') : W p l e R s mid args below meth c H locs k.1 k.2 Q (F0 mid pc ls (st.map (ai_vm G))) := by
  obtain ⟨hx, hb, hml, hown, hts, hnm, hE, hK, hfr, hlo, hmc, hmz, hn0⟩ := hX
  simp only [ai_stepI] at h
  split at h
  · rename_i ho
    cases h
    exact lv_goto hx hb hd (ai_tg_eq ho) (kk _ _ _ hJ hL)
  · cases h
variable {len : Nat}
theorem ai_s_tableswitch {df lo hi : Int} {offs : Array Int} (hX : ai_X G m d p R s mid args meth c) (hJ : ai_J G s w H locs) (hL : ai_Lr G ls m.1.2.2.1 L) (h : ai_stepI m (.tableswitch df lo hi offs) pc L st k w = some c') (hd : decode m.1.2.1 pc = .ok (.tableswitch df lo hi offs, len)) (kk : ai_KK G m p l e R s mid args below meth c Q c') : W p l e R s mid args below meth c H locs k.1 k.2 Q (F0 mid pc ls (st.map (ai_vm G))) := by
  obtain ⟨hx, hb, hml, hown, hts, hnm, hE, hK, hfr, hlo, hmc, hmz, hn0⟩ := hX
  simp only [ai_stepI] at h
  split at h
  · split at h
    · rename_i hc
      split at h
      · rename_i ho
        cases h
        exact lv_tableOut hx hb hd hc (ai_tg_eq ho) (kk _ _ _ hJ hL)
      · cases h
    · rename_i hc
      split at h
      · rename_i hq
        split at h
        · rename_i ho
          cases h
          exact lv_tableIn hx hb hd (fun z => hc (Or.inl z)) (fun z => hc (Or.inr z)) hq (ai_tg_eq ho) (kk _ _ _ hJ hL)
        · cases h
      · cases h
  · cases h
end AISND
