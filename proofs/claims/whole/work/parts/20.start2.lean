/-! the law from its entry, out of a run of the abstract machine -/
theorem ai_bt {c : Bool} {a b : Bool} (h : (a && b) = true) : a = true ∧ b = true := by simpa using h
theorem ai_fl1' {i : Nat} (h : i < 13) : Cond.exactly (ai_tm i) "java/lang/String" ∈ ai_flat ∧ Cond.eq (.field (ai_tm i) "java/lang/String" "coder" "B") (.int 0) ∈ ai_flat ∧ Cond.arrayOf (ai_fv i) .byte ∈ ai_flat ∧ Cond.eq (.length (ai_fv i)) (.int (Int32.ofNat (ai_len.getD i 0))) ∈ ai_flat ∧ ai_len.getD i 0 < 2 ^ 31 := by
  have h1 := List.all_eq_true.mp ai_fl1 i (List.mem_range.mpr h)
  simp only [Bool.and_eq_true, decide_eq_true_eq] at h1
  exact ⟨h1.1.1.1.1, h1.1.1.1.2, h1.1.1.2, h1.1.2, h1.2⟩
theorem ai_fl2' {i j : Nat} (h : i < 13) (hj : j < ai_len.getD i 0) : Cond.eq (.elem (ai_fv i) (.int (Int32.ofNat j))) (.int ((ai_byt.getD i []).getD j 0)) ∈ ai_flat := by
  have h1 := List.all_eq_true.mp (List.all_eq_true.mp ai_fl2 i (List.mem_range.mpr h)) j (List.mem_range.mpr hj)
  exact of_decide_eq_true h1
theorem ai_fl3' {i j : Nat} (h : i < 13) (hj : j < 13) (hij : i ≠ j) : Cond.not (Cond.eq (ai_tm i) (ai_tm j)) ∈ ai_flat ∨ Cond.not (Cond.eq (ai_tm j) (ai_tm i)) ∈ ai_flat := by
  have h1 := List.all_eq_true.mp (List.all_eq_true.mp ai_fl3b i (List.mem_range.mpr h)) j (List.mem_range.mpr hj)
  simp only [Bool.or_eq_true, decide_eq_true_eq, beq_iff_eq] at h1
  rcases h1 with (h1 | h1) | h1
  · exact absurd h1 hij
  · exact Or.inl (ai_fl3 h1)
  · exact Or.inr (ai_fl3 h1)
theorem ai_arrC {s : State} {args : Array Value} {ty : FieldType} (h : (Cond.arrayClass ty).before args s = true) (hty : ∀ C, ty ≠ .object C) : ∃ cA, ArrOfT s cA ty ∧ va_RA s cA ty := by
  obtain ⟨cA, kA, comp, h1, h2, h3⟩ := Cond.arrayClass_spec h
  refine ⟨cA, fun n z => ⟨(fun k hk => by cases hk), kA, h2, comp, h3⟩, ?_⟩
  unfold va_RA
  split
  · rename_i C; exact absurd rfl (hty C)
  · exact h1
theorem ai_arrO {s : State} {args : Array Value} {C : String} (h : (Cond.arrayOver (.object C)).before args s = true) : ∃ cA, ArrOfT s cA (.object C) ∧ va_RA s cA (.object C) := by
  obtain ⟨comp, cA, kA, h1, h2, h3, h4, h5⟩ := Cond.arrayOver_spec h
  exact ⟨cA, fun n z => ⟨(fun k hk => by cases hk), kA, h3, comp, h4⟩, kA, comp, h3, h4, h1, h5⟩
theorem ai_clw_in {ci : Nat} (h : ci < 8) : (∀ w ∈ u_ws (ai_cl ci).1 (ai_cl ci).2.1 (ai_cl ci).2.2, w ∈ ai_WS) ∧ Cond.instantiable (ai_cl ci).1 (ai_cl ci).2.2 ∈ ai_WS :=
  ⟨fun w hw => (ai_cls_ok ci h).2.2.1 w (List.mem_cons_of_mem _ (List.mem_cons_of_mem _ hw)), (ai_cls_ok ci h).2.2.1 _ List.mem_cons_self⟩
theorem ai_vwlen : vwCl.length = 8 := rfl
theorem ai_RR_law {p : Program} {l : Launch} {e : Env} {s : State} {mid : MethodId} {below : List Frame} {meth : Method} {c : Code} {b : Nat} {G : ai_G} {w' : ai_H} (hG : gN G = s.heap.size) (hx : p.tables.exec = Jvm.exec) (hb : c.code = code) (hr : meth.sig.returnType = ret) (hlocks : meth.locks = false) :
    ai_RR G mL_law p l e room_1 s mid #[Value.ref b] below meth c (lw_Z below #[Value.ref b] s) (some (.int 1)) w' := by
  intro H' locs' k1 k2 pc' ls' i st hJ h1 h2 hd h
  have hf : ∀ q ∈ locs', s.heap.size ≤ q.base := fun q hq => by rw [← hG]; exact hJ.2.1.2.2 q hq
  refine va_forget hf (W.widen (k := 600000) (n := 7302249) h1 h2 ?_)
  unfold ai_ret0 at h
  split at h
  · rename_i x
    have hx1 : x = 1 := by
      split at h
      · cases h; rfl
      · split at h
        · cases h; rfl
        · cases h
      · split at h
        · cases h; rfl
        · cases h
      · split at h
        · cases h; rfl
        · cases h
      · cases h
    subst hx1
    exact lw_ret hx hb hr hlocks hd
  · split at h
    · cases h
    · cases h
  · split at h
    · cases h
    · cases h
    · cases h
  · split at h
    · cases h
    · cases h
  · cases h
set_option maxHeartbeats 4000000 in
theorem ai_start (hLR : ai_LawRuns) {p : Program} {e : Env} {s : State} {m : MethodId} {below : List Frame} {meth : Method} {c : Code} (l : Launch) {b L : Nat} {xs : Nat → Int32} (hL : L ≤ 3584) (C0 : lw_At p s m meth c b L xs) : W p l e room_1 s m #[Value.ref b] below meth c s.heap [] 0 0 (lw_Z below #[Value.ref b] s) (entryFrame m ([Value.ref b] : List Value).toArray 4) := by
  obtain ⟨hx, hb, hr, hml, hown, hts, hX, hbl, hlocks, hgv⟩ := C0
  have hWS : ∀ w ∈ ai_WS, w.before #[Value.ref b] s = true := fun w hw => hts w (List.mem_filter.mp hw).1
  have hs : ∀ w ∈ ai_flat, w.before #[Value.ref b] s = true := flat_of_before _ hgv
  obtain ⟨n, w', hrun⟩ := hLR L xs hL
  -- the classes
  have hcl : ∀ ci : Nat, ∃ q : ClassId × (Nat → Nat), ci < 8 → u_Kn s (ai_cl ci).1 (ai_cl ci).2.1 (ai_cl ci).2.2 q.1 q.2 := by
    intro ci
    by_cases h : ci < 8
    · obtain ⟨c0, iS, hk⟩ := u_known (C := (ai_cl ci).1) (T := (ai_cl ci).2.1) (N := (ai_cl ci).2.2) (n := (ai_cl ci).2.2) hWS (ai_clw_in h).1 (hWS _ (ai_clw_in h).2)
      exact ⟨(c0, iS), fun _ => hk⟩
    · exact ⟨(0, fun _ => 0), fun z => absurd z h⟩
  obtain ⟨cq, hcq⟩ : ∃ cq : Nat → ClassId × (Nat → Nat), ∀ ci, ci < 8 → u_Kn s (ai_cl ci).1 (ai_cl ci).2.1 (ai_cl ci).2.2 (cq ci).1 (cq ci).2 := ⟨fun ci => (hcl ci).choose, fun ci => (hcl ci).choose_spec⟩
  -- the arrays
  obtain ⟨a0, ha0⟩ := ai_arrC (hWS _ (ai_W4_in _ (List.mem_of_getElem? (i := 10) rfl))) (fun C => by intro z; cases z)
  obtain ⟨a1, ha1⟩ := ai_arrC (hWS _ (ai_W4_in _ (List.mem_of_getElem? (i := 11) rfl))) (fun C => by intro z; cases z)
  obtain ⟨a2, ha2⟩ := ai_arrO (hWS _ (ai_W4_in _ (List.mem_of_getElem? (i := 12) rfl)))
  obtain ⟨a3, ha3⟩ := ai_arrO (hWS _ (ai_W4_in _ (List.mem_of_getElem? (i := 13) rfl)))
  -- the strings
  have hA : ∀ a : Nat, a < s.heap.size → ¬ s.heap.size ≤ a := fun a h => Nat.not_le.mpr h
  obtain ⟨adK, adV, hvk, hev⟩ := vk_Sof (args := #[Value.ref b]) (s := s) (N := 13) (tm := ai_tm) (len := ai_len) (byt := ai_byt) (A := fun q => s.heap.size ≤ q) (fun i hi => (ai_fl1' hi).2.2.2.2) (fun i hi => hs _ (ai_fl1' hi).1) (fun i hi => hs _ (ai_fl1' hi).2.1) (fun i hi => hs _ (ai_fl1' hi).2.2.1) (fun i hi => hs _ (ai_fl1' hi).2.2.2.1) (fun i hi j hj => hs _ (ai_fl2' hi hj)) (fun i j hi hj hij => (ai_fl3' hi hj hij).elim (fun z => Or.inl (hs _ z)) (fun z => Or.inr (hs _ z))) hA
  obtain ⟨fv, hf1, hf2⟩ := Cond.isRef_spec (hs _ ai_fl4.2)
  obtain ⟨fm, rfl⟩ : ∃ a, fv = va_rf a := by
    cases fv
    case null => exact ⟨none, rfl⟩
    case ref a => exact ⟨some a, rfl⟩
    all_goals simp [Value.isRef] at hf2
  obtain ⟨g1, g2, g3, g4⟩ := ai_fl6
  have hz1 := va_Zof (A := fun q => s.heap.size ≤ q) (hts _ g1) (hts _ g3) (va_eqi (hs _ ai_fl4.1)) hA
  have hz2 := va_Zof (A := fun q => s.heap.size ≤ q) (hts _ g2) (hts _ g4) hf1 hA
  -- the picture
  obtain ⟨G, hG⟩ : ∃ G : ai_G, G = (s.heap.size, ((fun ci => (cq ci).1), (fun ci => (cq ci).2)), (fun t => if t = 0 then a0 else if t = 1 then a1 else if t = 2 then a2 else a3), adK, adV, fm, b, L, xs) := ⟨_, rfl⟩
  have hE : ai_E G s s.heap := by
    subst hG
    refine ⟨hvk, ?_, hz1, hz2, hX, hbl⟩
    intro o ix i hi
    have h1 := List.all_eq_true.mp ai_fl5 _ hi
    simp only [Bool.and_eq_true, decide_eq_true_eq] at h1
    have hi13 : i < 13 := ai_gT_ok _ hi
    have h2 := hev i hi13
    unfold ai_tm at h2
    rw [h1.2] at h2
    exact vk_R.of (hts _ h1.1) h2
  have hK : va_K (gD G) vwCl (gT G) s := by
    subst hG
    refine ⟨fun ci q hq => ?_, fun k q hq => ?_⟩
    · have h8 : ci < 8 := by
        have := (List.getElem?_eq_some_iff.mp hq).1
        rwa [ai_vwlen] at this
      have h1 := (ai_cls_ok ci h8).1
      rw [hq] at h1
      cases h1
      exact hcq ci h8
    · match k, hq with
      | 0, hq => cases hq; exact ha0
      | 1, hq => cases hq; exact ha1
      | 2, hq => cases hq; exact ha2
      | 3, hq => cases hq; exact ha3
      | k + 4, hq => cases hq
  have hGN : gN G = s.heap.size := by rw [hG]; rfl
  have hnm : (mL_law.1.1.name = "<init>" → meth.name = "<init>") := fun z => absurd z (by decide)
  rw [lg_entry_eq]
  have hvm : ([Value.ref b] : List Value) = ([Value.ref 1000300] : List Value).map (ai_vm G) := by
    show _ = [Value.ref (ai_io G 1000300)]
    rw [ai_io_X, hG]
    rfl
  have hLs := ai_entry_Lr G (vs := [.ref 1000300]) (n := 4) (by decide)
  rw [← hvm] at hLs
  refine ai_sound n l G 300 mL_law _ (some (.int 1)) w' hrun ⟨hx, hb, hml, hown, hWS, hnm, hE, hK, by decide, by decide, by decide, by decide, by rw [hGN]; exact Nat.le_refl _⟩ ⟨?_, va_S.rf, by rw [hGN]; rfl, ⟨fun j => by rw [hG]; rfl, by rw [hG]; rfl⟩, Nat.zero_le _⟩ hLs (ai_RR_law hGN hx hb hr hlocks)
  intro k q hq
  cases hq
