/-! natives, calls, ends; and the whole -/
section AISND3
variable {G : ai_G} {m : ai_M} {d : Nat} {p : Program} {l : Launch} {e : Env} {R : Room} {s : State} {mid : MethodId} {args : Array Value} {below : List Frame} {meth : Method} {c : Code} {H : Heap} {locs : List Loc} {Q : State → Prop} {len pc ix : Nat} {L : List (Option Value)} {st : List Value} {k : Nat × Nat} {w : ai_H} {c' : ai_C} {ls : Array Slot}
theorem ai_cats_vm (G : ai_G) (st : List Value) : ((st.map (ai_vm G)).map fun v => v.category).sum = ai_cats st := ai_stack_cat G st
theorem ai_s_objinit (hX : ai_X G m d p R s mid args meth c) (hJ : ai_J G s w H locs) (hL : ai_Lr G ls m.1.2.2.1 L) (hlk : ai_look ai_nT (ai_ow m) ix = some 0) (h : ai_nat 0 pc L st k w m = some c') (hd : decode m.1.2.1 pc = .ok (.invokespecial ix, 3)) (kk : ai_KK G m p l e R s mid args below meth c Q c') : W p l e R s mid args below meth c H locs k.1 k.2 Q (F0 mid pc ls (st.map (ai_vm G))) := by
  obtain ⟨hx, hb, hml, hown, hts, hnm, hE, hK, hfr, hlo, hmc, hmz, hn0⟩ := hX
  unfold ai_nat at h
  split at h
  · rename_i a st _
    split at h
    · rename_i hc
      cases h
      have hl := ai_lk ai_nT_in hlk
      exact W.objInit hx hb hown (hts _ (hl (.methodLink (ai_on (ai_ow m)) ix Lib.objectInit) (by unfold ai_nw; rw [if_pos rfl]; exact List.mem_cons_self))) (hts _ (ai_W4_in _ (List.mem_of_getElem? (i := 0) rfl))) (hts _ (ai_W4_in _ (List.mem_of_getElem? (i := 1) rfl))) (g := F0 mid pc ls ((Value.ref a :: st).map (ai_vm G))) rfl (by rw [hml]; exact hL.1) rfl hd (by omega) (by
        show 2 * 0 + _ + 12 ≤ _
        rw [ai_cats_vm]
        omega) (kk _ _ _ hJ hL)
    · cases h
  · omega
  · omega
  · cases h
theorem ai_nfw : nativeFrameWords "java/lang/System" "arraycopy" 5 ≤ 60 := by decide +kernel
theorem ai_s_arraycopy (hX : ai_X G m d p R s mid args meth c) (hJ : ai_J G s w H locs) (hL : ai_Lr G ls m.1.2.2.1 L) (hlk : ai_look ai_nT (ai_ow m) ix = some 1) (h : ai_nat 1 pc L st k w m = some c') (hd : decode m.1.2.1 pc = .ok (.invokestatic ix, 3)) (kk : ai_KK G m p l e R s mid args below meth c Q c') : W p l e R s mid args below meth c H locs k.1 k.2 Q (F0 mid pc ls (st.map (ai_vm G))) := by
  obtain ⟨hx, hb, hml, hown, hts, hnm, hE, hK, hfr, hlo, hmc, hmz, hn0⟩ := hX
  have hJ0 := hJ
  obtain ⟨hP, hS, hsz, hscr, hNN⟩ := hJ
  unfold ai_nat at h
  split at h
  · omega
  · rename_i n dp a sp b st _
    split at h
    · rename_i hc
      cases h
      obtain ⟨c1, c2, c3, c4, c5, c6, c7, c8⟩ := hc
      have hl := ai_lk ai_nT_in hlk
      have halt : a < mN w := ai_lt1 (by rw [c2]; decide)
      have hblt : b < mN w := ai_lt1 (by rw [c1]; decide)
      have hw := ai_nfw
      refine ai_store (w' := msA w a (ai_cpy w b a sp.toNatClampNeg dp.toNatClampNeg n.toNatClampNeg)) hJ0 rfl (Nat.lt_of_le_of_lt (Nat.zero_le a) halt) (ai_scr_msA (Nat.lt_of_lt_of_le halt hNN) hscr) (fun e2 hW => ?_) (fun H1 locs1 hJ1 => kk _ _ _ hJ1 hL)
      refine va_copyi hx hb (by rw [hml]; exact hL.1.symm) hown (hts _ (hl (.methodLink (ai_on (ai_ow m)) ix arraycopyName) (by unfold ai_nw; rw [if_neg Nat.one_ne_zero, if_pos rfl]; exact List.mem_cons_self))) (hts _ (ai_W4_in _ (List.mem_of_getElem? (i := 2) rfl))) (hts _ (ai_W4_in _ (List.mem_of_getElem? (i := 3) rfl))) (hts _ (ai_W4_in _ (List.mem_of_getElem? (i := 4) rfl))) hK hP ai_cw_D hS b a 0 0 (ai_cw_at hblt hNN (ai_ce_2 c1)) (ai_cw_at halt hNN (ai_ce_2 c2)) rfl rfl rfl c3 c4 c5 c6 c7 (fun _ _ => rfl) (by omega) (by rw [ai_cats_vm]; omega) hd fun H1 locs1 p1 _ p2 => hW H1 locs1 ?_ p2
      rw [ai_cw_set (G := G) (w := w) (w' := msA w a (ai_cpy w b a sp.toNatClampNeg dp.toNatClampNeg n.toNatClampNeg)) (i := a) halt rfl (fun j hj => ai_ce_msA hj), ai_ce_2 (by rw [mS_msA]; exact c2), ← ai_io_lt (Nat.lt_of_lt_of_le halt hNN)]
      have he : mI (msA w a (ai_cpy w b a sp.toNatClampNeg dp.toNatClampNeg n.toNatClampNeg)) a = ai_cpy w b a sp.toNatClampNeg dp.toNatClampNeg n.toNatClampNeg := by
        funext q
        rw [mI_msA, if_pos rfl]
      rw [he]
      exact p1
    · cases h
  · omega
  · cases h
theorem ai_s_clone (hX : ai_X G m d p R s mid args meth c) (hJ : ai_J G s w H locs) (hL : ai_Lr G ls m.1.2.2.1 L) (hlk : ai_look ai_nT (ai_ow m) ix = some 2) (h : ai_nat 2 pc L st k w m = some c') (hd : decode m.1.2.1 pc = .ok (.invokevirtual ix, 3)) (kk : ai_KK G m p l e R s mid args below meth c Q c') : W p l e R s mid args below meth c H locs k.1 k.2 Q (F0 mid pc ls (st.map (ai_vm G))) := by
  obtain ⟨hx, hb, hml, hown, hts, hnm, hE, hK, hfr, hlo, hmc, hmz, hn0⟩ := hX
  have hJ0 := hJ
  obtain ⟨hP, hS, hsz, hscr, hNN⟩ := hJ
  unfold ai_nat at h
  split at h
  · omega
  · omega
  · rename_i a st _
    split at h
    · rename_i hc
      cases h
      obtain ⟨c1, c2, c3, c4, c5, c6⟩ := hc
      have hl := ai_lk ai_nT_in hlk
      have halt : a < mN w := ai_lt1 (by rw [c1]; decide)
      have hA : ∀ q, s.heap.size ≤ q → gA G q := fun q hq => Nat.le_trans hn0 hq
      refine ai_alloc (w' := msA (mnew w (2, (mS w a).2)) (mN w) (mI w a)) hJ0 rfl c4 (fun j hj => by rw [ai_ce_msA hj, ai_ce_mnew hj]) (ai_scr_msA c4 (ai_scr_mnew c4 hscr)) (Nat.le_trans c2 hmc) (fun e2 he2 hW => ?_) (fun H1 hJ1 => kk _ _ _ hJ1 hL)
      refine va_clone hx hb (by rw [hml]; exact hL.1.symm) hown (hts _ (hl (.methodLink (ai_on (ai_ow m)) ix ⟨"[I", "clone", "()Ljava/lang/Object;"⟩) (by unfold ai_nw; rw [if_neg (show ¬ (2 : Nat) = 0 by decide), if_neg (show ¬ (2 : Nat) = 1 by decide)]; exact List.mem_cons_self))) (hts _ (ai_W4_in _ (List.mem_of_getElem? (i := 5) rfl))) (hts _ (ai_W4_in _ (List.mem_of_getElem? (i := 6) rfl))) (hts _ (ai_W4_in _ (List.mem_of_getElem? (i := 7) rfl))) (hts _ (ai_W4_in _ (List.mem_of_getElem? (i := 8) rfl))) (va_Nw.of rfl (hts _ (ai_W4_in _ (List.mem_of_getElem? (i := 9) rfl)))) hK hP ai_cw_D hS hA a 0 (ai_cw_at halt hNN (ai_ce_2 c1)) rfl (ai_arr_nm hK) (fun i v hv => ?_) (by omega) (by rw [ai_cats_vm]; omega) he2 (Nat.le_trans c3 hmz) hd fun q H1 _ p2 p3 p4 => ?_
      · have hlt : i < (mS w a).2 := by
          have h1 := (Array.getElem?_eq_some_iff.mp hv).1
          rw [vp_cell_i, arrV_size] at h1
          exact h1
        rw [vp_cell_i, arrV_read _ _ hlt] at hv
        cases hv
        rfl
      · have he : ai_ce G (msA (mnew w (2, (mS w a).2)) (mN w) (mI w a)) (mN w) = .inl (gC G 0, (mS w a).2, .inl (mI w a)) := by
          have h1 : mS (msA (mnew w (2, (mS w a).2)) (mN w) (mI w a)) (mN w) = (2, (mS w a).2) := by rw [mS_msA, ai_mS_new]
          have h2 : mI (msA (mnew w (2, (mS w a).2)) (mN w) (mI w a)) (mN w) = mI w a := by
            funext q
            rw [mI_msA, if_pos rfl]
          rw [ai_ce_2 (by rw [h1]), h1, h2]
        exact hW q H1 (by rw [he]; exact p2) (by rw [he]; exact p3) p4
    · cases h
  · cases h
def ai_ws (m : ai_M) : List Cond := .code m.1.1 m.1.2.1 m.1.2.2.1 m.1.2.2.2 :: ai_WS
def ai_rm (d : Nat) (m : ai_M) : Room := { frames := d + 2, cells := ai_mc m, slots := ai_mz m, locals := 60 * (d + 2) }
def ai_Inv (G : ai_G) (w : ai_H) (H : Heap) : Prop := H.size = gN G + mN w ∧ va_P (gD G) vwCl (ai_cw G w) H ∧ ((∀ j, mI w 1000300 j = gX G j) ∧ mP w 1000300 0 = some (gL G)) ∧ mN w ≤ 1000000
def ai_Pre (G : ai_G) (w : ai_H) (as : List Value) : Array Value → State → Prop := va_Pc (as.map (ai_vm G)) (fun U => ai_Inv G w U.heap ∧ va_K (gD G) vwCl (gT G) U ∧ ai_E G U U.heap)
def ai_Post (G : ai_G) (r : Option Value) (w' : ai_H) : Array Value → State → Outcome → State → Prop := fun _ st o t => o = .returned (r.map (ai_vm G)) ∧ ai_Inv G w' t.heap ∧ va_F (gA G) st t
theorem ai_Pre_blind (w : ai_H) (as : List Value) : FrameBlind (ai_Pre G w as) := by
  intro a U g mk hq
  obtain ⟨q0, q1, q2, q3⟩ := hq
  exact ⟨q0, q1, va_K.moved (u := U) (U := U.calling g mk a) (Vm.Alike.refl U.vm) q2, ai_E.same rfl q3⟩
theorem ai_Pre_at (hX : ai_X G m d p R s mid args meth c) (hJ : ai_J G s w H locs) (as : List Value) : ∀ U : State, U.heap = H → s.WarmedH U.vm → ai_Pre G w as (as.map (ai_vm G)).toArray U := by
  intro U hU hW
  obtain ⟨hx, hb, hml, hown, hts, hnm, hE, hK, hfr, hlo, hmc, hmz, hn0⟩ := hX
  obtain ⟨hP, hS, hsz, hscr, hNN⟩ := hJ
  refine ⟨rfl, ⟨by rw [hU]; exact hsz, by rw [hU]; exact hP, hscr, hNN⟩, va_K.moved hW.alike hK, ?_⟩
  rw [hU]
  exact ai_E.warm hW (hE.kept hn0 hS.2.1)
theorem ai_goon {r : Option Value} {w' : ai_H} {mc ms : Nat} {rest st0 : List Value} {a : Array Value} (hr : va_Run p l e R s mid args below meth c H locs k.1 k.2 mc ms (F0 mid pc ls st0) rest (ai_Post G r w' a) (gA G)) (hJ : ai_J G s w H locs)
    (kk : ∀ (H' : Heap) (locs' : List Loc), ai_J G s w' H' locs' → W p l e R s mid args below meth c H' locs' (k.1 + mc) (k.2 + ms) Q (F0 mid (pc + 3) ls ((r.map (ai_vm G)).toList ++ rest))) : W p l e R s mid args below meth c H locs k.1 k.2 Q (F0 mid pc ls st0) := by
  intro T hT X
  obtain ⟨v, st₀, t, T', L, h0, X', hL, e1, e2, ⟨hv, hI, hF⟩, st⟩ := hr T hT X
  cases hv
  obtain ⟨hP, hS, hsz, hscr, hNN⟩ := hJ
  obtain ⟨i1, i2, i3, i4⟩ := hI
  obtain ⟨f1, f2⟩ := hF
  rw [h0] at f1 f2
  obtain ⟨t2, a1, b1⟩ := kk T'.heap (locs ++ L) ⟨by rw [e1]; exact i2, ⟨Nat.le_trans hS.1 (by rw [e1]; exact f1), fun q h1 h2 => by rw [e1, f2 q (Nat.lt_of_lt_of_le h1 hS.1) h2]; exact hS.2.1 q h1 h2, fun q hq => by
      rcases List.mem_append.mp hq with h | h
      · exact hS.2.2 q h
      · exact hL q h⟩, by rw [e1]; exact i1, i3, i4⟩ T' rfl X'
  exact ⟨t2, st t2 a1, b1⟩
/-- the ends -/
def ai_RR (G : ai_G) (m : ai_M) (p : Program) (l : Launch) (e : Env) (R : Room) (s : State) (mid : MethodId) (args : Array Value) (below : List Frame) (meth : Method) (c : Code) (Q : State → Prop) (r : Option Value) (w' : ai_H) : Prop :=
  ∀ (H' : Heap) (locs' : List Loc) (k1 k2 pc' : Nat) (ls' : Array Slot) (i : Instr) (st : List Value), ai_J G s w' H' locs' → k1 ≤ ai_mc m → k2 ≤ ai_mz m → decode m.1.2.1 pc' = .ok (i, 1) → ai_ret0 m i st = some r → W p l e R s mid args below meth c H' locs' k1 k2 Q (F0 mid pc' ls' (st.map (ai_vm G)))
theorem ai_RR_met {r : Option Value} {w' : ai_H} (hx : p.tables.exec = Jvm.exec) (hb : c.code = m.1.2.1) (hr : meth.sig.returnType = m.1.2.2.2) (hlocks : meth.locks = false) : ai_RR G m p l e R s mid args below meth c (MQ below (ai_Post G r w') args s (ai_mc m) (ai_mz m) (gA G)) r w' := by
  intro H' locs' k1 k2 pc' ls' i st hJ h1 h2 hd h
  refine W.widen h1 h2 ?_
  have hq : ∀ t : State, t.heap = H' → ai_Post G r w' args s (.returned (r.map (ai_vm G))) t := by
    intro t ht
    obtain ⟨hP, hS, hsz, hscr, hNN⟩ := hJ
    refine ⟨rfl, ⟨by rw [ht]; exact hsz, by rw [ht]; exact hP, hscr, hNN⟩, hS.F ht⟩
  unfold ai_ret0 at h
  split at h
  · split at h
    · rename_i e; cases h; exact W.iret hx hb (hr.trans e) (fun t ht _ => hq t ht) hJ.2.1.2.2 hd
    · rename_i e
      split at h
      · rename_i hn; cases h; exact W.zret hx hb (hr.trans e) hn (fun t ht _ => hq t ht) hJ.2.1.2.2 hd
      · cases h
    · rename_i e
      split at h
      · rename_i hn; cases h; exact W.zret hx hb (hr.trans e) hn (fun t ht _ => hq t ht) hJ.2.1.2.2 hd
      · cases h
    · rename_i e
      split at h
      · rename_i hn; cases h; exact W.zret hx hb (hr.trans e) hn (fun t ht _ => hq t ht) hJ.2.1.2.2 hd
      · cases h
    · cases h
  · split at h
    · rename_i e; cases h; exact W.lret hx hb (hr.trans e) (fun t ht _ => hq t ht) hJ.2.1.2.2 hd
    · cases h
  · split at h
    · rename_i e; cases h; exact W.aret hx hb (hr.trans e) (Or.inl ⟨_, rfl⟩) (Or.inr ⟨_, rfl⟩) (fun t ht _ => hq t ht) hJ.2.1.2.2 hd
    · rename_i e; cases h; exact W.aret hx hb (hr.trans e) (Or.inr ⟨_, rfl⟩) (Or.inr ⟨_, rfl⟩) (fun t ht _ => hq t ht) hJ.2.1.2.2 hd
    · cases h
  · split at h
    · rename_i e; cases h; exact W.vret hx hb (hr.trans e) (fun t ht _ => hq t ht) hJ.2.1.2.2 hd
    · cases h
  · cases h
end AISND3
