/-! printed by wip/gen/snd4.py: soundness, whole -/
section AISND4
variable {G : ai_G} {m : ai_M} {d : Nat} {p : Program} {l : Launch} {e : Env} {R : Room} {s : State} {mid : MethodId} {args : Array Value} {below : List Frame} {meth : Method} {c : Code} {H : Heap} {locs : List Loc} {Q : State → Prop} {len pc ix : Nat} {L : List (Option Value)} {st : List Value} {k : Nat × Nat} {w : ai_H} {c' : ai_C} {ls : Array Slot}
set_option maxHeartbeats 4000000 in
theorem ai_sndI {i : Instr} (hX : ai_X G m d p R s mid args meth c) (hJ : ai_J G s w H locs) (hL : ai_Lr G ls m.1.2.2.1 L) (h : ai_stepI m i pc L st k w = some c') (hln : ai_ln i len = true) (hd : decode m.1.2.1 pc = .ok (i, len)) (kk : ai_KK G m p l e R s mid args below meth c Q c') : W p l e R s mid args below meth c H locs k.1 k.2 Q (F0 mid pc ls (st.map (ai_vm G))) := by
  cases i
  case iload_n => obtain rfl := beq_iff_eq.mp hln; exact ai_s_iload_n hX hJ hL h hd kk
  case lload_n => obtain rfl := beq_iff_eq.mp hln; exact ai_s_lload_n hX hJ hL h hd kk
  case aload_n => obtain rfl := beq_iff_eq.mp hln; exact ai_s_aload_n hX hJ hL h hd kk
  case istore_n => obtain rfl := beq_iff_eq.mp hln; exact ai_s_istore_n hX hJ hL h hd kk
  case lstore_n => obtain rfl := beq_iff_eq.mp hln; exact ai_s_lstore_n hX hJ hL h hd kk
  case astore_n => obtain rfl := beq_iff_eq.mp hln; exact ai_s_astore_n hX hJ hL h hd kk
  case iadd => obtain rfl := beq_iff_eq.mp hln; exact ai_s_iadd hX hJ hL h hd kk
  case isub => obtain rfl := beq_iff_eq.mp hln; exact ai_s_isub hX hJ hL h hd kk
  case imul => obtain rfl := beq_iff_eq.mp hln; exact ai_s_imul hX hJ hL h hd kk
  case iand => obtain rfl := beq_iff_eq.mp hln; exact ai_s_iand hX hJ hL h hd kk
  case ior => obtain rfl := beq_iff_eq.mp hln; exact ai_s_ior hX hJ hL h hd kk
  case ixor => obtain rfl := beq_iff_eq.mp hln; exact ai_s_ixor hX hJ hL h hd kk
  case ishl => obtain rfl := beq_iff_eq.mp hln; exact ai_s_ishl hX hJ hL h hd kk
  case ishr => obtain rfl := beq_iff_eq.mp hln; exact ai_s_ishr hX hJ hL h hd kk
  case ineg => obtain rfl := beq_iff_eq.mp hln; exact ai_s_ineg hX hJ hL h hd kk
  case ladd => obtain rfl := beq_iff_eq.mp hln; exact ai_s_ladd hX hJ hL h hd kk
  case lsub => obtain rfl := beq_iff_eq.mp hln; exact ai_s_lsub hX hJ hL h hd kk
  case lmul => obtain rfl := beq_iff_eq.mp hln; exact ai_s_lmul hX hJ hL h hd kk
  case lneg => obtain rfl := beq_iff_eq.mp hln; exact ai_s_lneg hX hJ hL h hd kk
  case iushr => obtain rfl := beq_iff_eq.mp hln; exact ai_s_iushr hX hJ hL h hd kk
  case lcmp => obtain rfl := beq_iff_eq.mp hln; exact ai_s_lcmp hX hJ hL h hd kk
  case i2l => obtain rfl := beq_iff_eq.mp hln; exact ai_s_i2l hX hJ hL h hd kk
  case l2i => obtain rfl := beq_iff_eq.mp hln; exact ai_s_l2i hX hJ hL h hd kk
  case i2b => obtain rfl := beq_iff_eq.mp hln; exact ai_s_i2b hX hJ hL h hd kk
  case i2s => obtain rfl := beq_iff_eq.mp hln; exact ai_s_i2s hX hJ hL h hd kk
  case i2c => obtain rfl := beq_iff_eq.mp hln; exact ai_s_i2c hX hJ hL h hd kk
  case idiv => obtain rfl := beq_iff_eq.mp hln; exact ai_s_idiv hX hJ hL h hd kk
  case irem => obtain rfl := beq_iff_eq.mp hln; exact ai_s_irem hX hJ hL h hd kk
  case ldiv => obtain rfl := beq_iff_eq.mp hln; exact ai_s_ldiv hX hJ hL h hd kk
  case lrem => obtain rfl := beq_iff_eq.mp hln; exact ai_s_lrem hX hJ hL h hd kk
  case dup => obtain rfl := beq_iff_eq.mp hln; exact ai_s_dup hX hJ hL h hd kk
  case pop => obtain rfl := beq_iff_eq.mp hln; exact ai_s_pop hX hJ hL h hd kk
  case dup_x1 => obtain rfl := beq_iff_eq.mp hln; exact ai_s_dup_x1 hX hJ hL h hd kk
  case iaload => obtain rfl := beq_iff_eq.mp hln; exact ai_s_iaload hX hJ hL h hd kk
  case baload => obtain rfl := beq_iff_eq.mp hln; exact ai_s_baload hX hJ hL h hd kk
  case aaload => obtain rfl := beq_iff_eq.mp hln; exact ai_s_aaload hX hJ hL h hd kk
  case iastore => obtain rfl := beq_iff_eq.mp hln; exact ai_s_iastore hX hJ hL h hd kk
  case bastore => obtain rfl := beq_iff_eq.mp hln; exact ai_s_bastore hX hJ hL h hd kk
  case aastore => obtain rfl := beq_iff_eq.mp hln; exact ai_s_aastore hX hJ hL h hd kk
  case arraylength => obtain rfl := beq_iff_eq.mp hln; exact ai_s_arraylength hX hJ hL h hd kk
  case iconst => obtain rfl := beq_iff_eq.mp hln; exact ai_s_iconst hX hJ hL h hd kk
  case lconst => obtain rfl := beq_iff_eq.mp hln; exact ai_s_lconst hX hJ hL h hd kk
  case bipush => obtain rfl := beq_iff_eq.mp hln; exact ai_s_bipush hX hJ hL h hd kk
  case sipush => obtain rfl := beq_iff_eq.mp hln; exact ai_s_sipush hX hJ hL h hd kk
  case iload => obtain rfl := beq_iff_eq.mp hln; exact ai_s_iload hX hJ hL h hd kk
  case lload => obtain rfl := beq_iff_eq.mp hln; exact ai_s_lload hX hJ hL h hd kk
  case aload => obtain rfl := beq_iff_eq.mp hln; exact ai_s_aload hX hJ hL h hd kk
  case istore => obtain rfl := beq_iff_eq.mp hln; exact ai_s_istore hX hJ hL h hd kk
  case lstore => obtain rfl := beq_iff_eq.mp hln; exact ai_s_lstore hX hJ hL h hd kk
  case astore => obtain rfl := beq_iff_eq.mp hln; exact ai_s_astore hX hJ hL h hd kk
  case newarray => obtain rfl := beq_iff_eq.mp hln; exact ai_s_newarray hX hJ hL h hd kk
  case ldc => obtain rfl := beq_iff_eq.mp hln; exact ai_s_ldc hX hJ hL h hd kk
  case iinc => obtain rfl := beq_iff_eq.mp hln; exact ai_s_iinc hX hJ hL h hd kk
  case ifnull => obtain rfl := beq_iff_eq.mp hln; exact ai_s_ifnull hX hJ hL h hd kk
  case goto => obtain rfl := beq_iff_eq.mp hln; exact ai_s_goto hX hJ hL h hd kk
  case getfield => obtain rfl := beq_iff_eq.mp hln; exact ai_s_getfield hX hJ hL h hd kk
  case putfield => obtain rfl := beq_iff_eq.mp hln; exact ai_s_putfield hX hJ hL h hd kk
  case getstatic => obtain rfl := beq_iff_eq.mp hln; exact ai_s_getstatic hX hJ hL h hd kk
  case anewarray => obtain rfl := beq_iff_eq.mp hln; exact ai_s_anewarray hX hJ hL h hd kk
  case new => obtain rfl := beq_iff_eq.mp hln; exact ai_s_new hX hJ hL h hd kk
  case checkcast => obtain rfl := beq_iff_eq.mp hln; exact ai_s_checkcast hX hJ hL h hd kk
  case ldc_w => obtain rfl := beq_iff_eq.mp hln; exact ai_s_ldc_w hX hJ hL h hd kk
  case ldc2_w => obtain rfl := beq_iff_eq.mp hln; exact ai_s_ldc2_w hX hJ hL h hd kk
  case tableswitch => exact ai_s_tableswitch hX hJ hL h hd kk
  case ifCond cd off =>
    obtain rfl := beq_iff_eq.mp hln
    cases cd
    case eq => exact ai_s_ifCond_eq hX hJ hL h hd kk
    case ne => exact ai_s_ifCond_ne hX hJ hL h hd kk
    case lt => exact ai_s_ifCond_lt hX hJ hL h hd kk
    case ge => exact ai_s_ifCond_ge hX hJ hL h hd kk
    case gt => exact ai_s_ifCond_gt hX hJ hL h hd kk
    case le => exact ai_s_ifCond_le hX hJ hL h hd kk
  case if_icmp cd off =>
    obtain rfl := beq_iff_eq.mp hln
    cases cd
    case eq => exact ai_s_if_icmp_eq hX hJ hL h hd kk
    case ne => exact ai_s_if_icmp_ne hX hJ hL h hd kk
    case lt => exact ai_s_if_icmp_lt hX hJ hL h hd kk
    case ge => exact ai_s_if_icmp_ge hX hJ hL h hd kk
    case gt => exact ai_s_if_icmp_gt hX hJ hL h hd kk
    case le => exact ai_s_if_icmp_le hX hJ hL h hd kk
  all_goals exact absurd h (by simp [ai_stepI])
def ai_opI (op ix : Nat) : Instr := match op with
  | 0 => .invokevirtual ix
  | 1 => .invokestatic ix
  | _ => .invokespecial ix
theorem ai_rev_take {st : List Value} {n : Nat} : ((st.take n).reverse.map (ai_vm G)).reverse ++ (st.drop n).map (ai_vm G) = st.map (ai_vm G) := by
  rw [← List.map_reverse, List.reverse_reverse, ← List.map_append, List.take_append_drop]
theorem ai_mok_get {m' : ai_M} (h : ai_mok m' = true) : plainFor m'.1.1 = true ∧ (m'.1.1.cls ≠ "java/lang/invoke/MethodHandle" ∧ m'.1.1.cls ≠ "java/lang/invoke/VarHandle") ∧ m'.1.2.2.1 ≤ 40 ∧ ai_on m'.2.1 = m'.1.1.cls := by
  unfold ai_mok at h
  simp only [Bool.and_eq_true, decide_eq_true_eq, bne_iff_ne, beq_iff_eq] at h
  exact ⟨h.1.1.1, h.1.1.2, h.1.2, h.2⟩
set_option maxHeartbeats 4000000 in
theorem ai_s_inv {op d' : Nat} {m' : ai_M} {As rest : List Value} {r : Option Value} {w' : ai_H} (hX : ai_X G m (d' + 1) p R s mid args meth c) (hJ : ai_J G s w H locs) (hL : ai_Lr G ls m.1.2.2.1 L) (h : ai_call op m ix pc L st k w = some (.inr (.inr (m', As, rest)))) (hop : op < 3) (hd : decode m.1.2.1 pc = .ok (ai_opI op ix, 3))
    (hM : ai_mok m' = true → (ai_args As).length ≤ m'.1.2.2.1 → Met l m'.1.1 (ai_ws m') (ai_rm d' m') (ai_Pre G w As) (ai_Post G r w') (ai_mc m') (ai_mz m') (gA G))
    (kk : ∀ (H' : Heap) (locs' : List Loc), ai_J G s w' H' locs' → W p l e R s mid args below meth c H' locs' (k.1 + ai_mc m') (k.2 + ai_mz m') Q (F0 mid (pc + 3) ls ((r.toList ++ rest).map (ai_vm G)))) : W p l e R s mid args below meth c H locs k.1 k.2 Q (F0 mid pc ls (st.map (ai_vm G))) := by
  have hX0 := hX
  have hJ0 := hJ
  obtain ⟨hx, hb, hml, hown, hts, hnm, hE, hK, hfr, hlo, hmc, hmz, hn0⟩ := hX
  obtain ⟨hP, hS, hsz, hscr, hNN⟩ := hJ
  unfold ai_call at h
  split at h
  · rename_i kind ci n m1 hlk
    have hmem := ai_look_mem _ _ _ _ hlk
    have hin := ai_cT_in _ hmem
    have hok := ai_cT_ok _ hmem
    unfold ai_cok at hok
    simp only [Bool.and_eq_true, Bool.or_eq_true, decide_eq_true_eq, bne_iff_ne, beq_iff_eq] at hok
    obtain ⟨⟨⟨⟨⟨hmk, hpar⟩, hk2⟩, hk0⟩, hk3⟩, hkin⟩ := hok
    try dsimp only at hmk hpar hk2 hk0 hk3 hkin
    try dsimp only at h
    obtain ⟨hpl, hno, hmL, hon⟩ := ai_mok_get hmk
    split at h
    · rename_i hc
      obtain ⟨c1, c2, c3, c4⟩ := hc
      have hkk : ∀ (H' : Heap) (locs' : List Loc), ai_J G s w' H' locs' → W p l e R s mid args below meth c H' locs' (k.1 + ai_mc m') (k.2 + ai_mz m') Q (F0 mid (pc + 3) ls ((r.map (ai_vm G)).toList ++ rest.map (ai_vm G))) := by
        intro H' locs' hJ'
        have h1 := kk H' locs' hJ'
        rw [List.map_append] at h1
        have e1 : r.toList.map (ai_vm G) = (r.map (ai_vm G)).toList := by cases r <;> rfl
        rw [e1] at h1
        exact h1
      have hcode : Cond.code m1.1.1 m1.1.2.1 m1.1.2.2.1 m1.1.2.2.2 ∈ ai_WS := hin _ (by unfold ai_cwd; exact List.mem_cons_of_mem _ List.mem_cons_self)
      have hini : Cond.initialized m1.1.1.cls ∈ ai_WS := hin _ (by unfold ai_cwd; exact List.mem_cons_of_mem _ (List.mem_cons_of_mem _ List.mem_cons_self))
      have hws : ∀ w ∈ ai_ws m1, ∀ (a' : Array Value) (U : State), s.WarmedH U.vm → w.before a' U = true := by
        intro w hw a' U hW
        rcases List.mem_cons.mp hw with rfl | hw
        · exact ai_WS_warm hts _ hcode a' U hW
        · exact ai_WS_warm hts _ hw a' U hW
      have hlen : ∀ sig, parseMethodDescriptor m1.1.1.desc = some sig → n = sig.parameters.length := by
        intro sig hsig
        rw [hsig] at hpar
        exact (Option.some.inj hpar).symm
      have hF : CallFix p mid c m.1.2.1 m.1.2.2.1 s args ai_WS (ai_on (ai_ow m)) := ⟨hx, hb, hml, hown, hts⟩
      have hroom : (ai_rm d' m1).frames + 1 ≤ R.frames ∧ 8 + (m1.1.2.2.1 + 11) + (ai_rm d' m1).locals ≤ R.locals := by
        unfold ai_rm
        dsimp only
        omega
      have hB : kind < 10 → CallB R s args (ai_on (ai_ow m)) ix m1.1.1 m1.1.2.1 m1.1.2.2.1 m1.1.2.2.2 (ai_ws m1) (ai_rm d' m1) (ai_mc m1) (ai_mz m1) n := fun hk =>
        ⟨rfl, rfl, hroom.1, hroom.2, hws, List.mem_cons_self, hts _ hcode, hts _ hini, hno, hlen, hts _ (hin _ (by unfold ai_cwd; rw [if_pos hk]; exact List.mem_cons_self))⟩
      have hN : ¬ kind < 10 → va_CN R s args (ai_on (ai_ow m)) ix m1.1.1 "Ambassadors" m1.1.2.1 m1.1.2.2.1 m1.1.2.2.2 (ai_ws m1) (ai_rm d' m1) (ai_mc m1) (ai_mz m1) n := fun hk =>
        ⟨⟨rfl, rfl, hroom.1, hroom.2, hws, List.mem_cons_self⟩, hts _ hcode, hts _ hini, hno, hlen, hts _ (hin _ (by unfold ai_cwd; rw [if_neg hk]; exact List.mem_cons_self))⟩
      have hf : k.1 + ai_mc m1 ≤ R.cells ∧ k.2 + ai_mz m1 ≤ R.slots := ⟨Nat.le_trans c3 hmc, Nat.le_trans c4 hmz⟩
      have htl : (st.take n).reverse.length = n := by rw [List.length_reverse, List.length_take]; omega
      have htl2 : ((st.take n).reverse.map (ai_vm G)).length = n := by rw [List.length_map]; exact htl
      split at h
      · rename_i hs1
        split at h
        · rename_i hc5
          cases h
          have hop1 : op = 1 := by omega
          subst hop1
          have hst : Cond.static m'.1.1 ∈ ai_WS := hin _ (by unfold ai_cwd; rw [if_pos hs1]; exact List.mem_cons_of_mem _ (List.mem_cons_of_mem _ (List.mem_cons_of_mem _ List.mem_cons_self)))
          have hpre : PreS s H (ai_Pre G w (st.take n).reverse) ((st.take n).reverse.map (ai_vm G)) := ⟨ai_Pre_blind _ _, ai_Pre_at hX0 hJ0 _⟩
          by_cases hk : kind < 10
          · exact ai_goon (va_runS hF (hM hmk hc5.2) ⟨hB hk, hts _ hst⟩ hpre rfl htl2 hL.1 (g := F0 mid pc ls (st.map (ai_vm G))) (ai_rev_take).symm (lv_room (by rw [ai_cats_vm]; exact hc5.1)) hd hf) hJ0 hkk
          · exact ai_goon (va_runSN hF (hM hmk hc5.2) ⟨hN hk, hts _ hst, trivial⟩ hpre rfl htl2 hL.1 (g := F0 mid pc ls (st.map (ai_vm G))) (ai_rev_take).symm (lv_room (by rw [ai_cats_vm]; exact hc5.1)) hd hf) hJ0 hkk
        · cases h
      · rename_i hs1
        split at h
        · rename_i a rest1 hdr
          split at h
          · rename_i hc5
            cases h
            obtain ⟨d1, d2, d3, d4⟩ := hc5
            have hin1 : Cond.instanceMethod m'.1.1 ∈ ai_WS := by
              by_cases hs2 : kind % 10 = 2
              · exact hin _ (by unfold ai_cwd; rw [if_neg hs1, if_pos hs2]; exact List.mem_cons_of_mem _ (List.mem_cons_of_mem _ (List.mem_cons_of_mem _ List.mem_cons_self)))
              · exact hin _ (by unfold ai_cwd; rw [if_neg hs1, if_neg hs2]; exact List.mem_cons_of_mem _ (List.mem_cons_of_mem _ (List.mem_cons_of_mem _ List.mem_cons_self)))
            have hsel : kind % 10 ≠ 2 → Cond.selects m'.1.1.cls m'.1.1 m'.1.1 ∈ ai_WS := fun hs2 => hin _ (by unfold ai_cwd; rw [if_neg hs1, if_neg hs2]; exact List.mem_cons_of_mem _ (List.mem_cons_of_mem _ (List.mem_cons_of_mem _ (List.mem_cons_of_mem _ List.mem_cons_self))))
            have hstk : st.map (ai_vm G) = ((st.take n).reverse.map (ai_vm G)).reverse ++ .ref (ai_io G a) :: rest.map (ai_vm G) := by
              have h1 := (ai_rev_take (G := G) (st := st) (n := n)).symm
              rw [hdr] at h1
              exact h1
            have hroom8 : 2 * (F0 mid pc ls (st.map (ai_vm G))).monitorRoom + ((rest.map (ai_vm G)).map fun v => v.category).sum ≤ 8 := lv_room (by rw [ai_cats_vm]; exact d1)
            have hpre : ∀ U : State, U.heap = H → s.WarmedH U.vm → ai_Pre G w (.ref a :: (st.take n).reverse) (Value.ref (ai_io G a) :: (st.take n).reverse.map (ai_vm G)).toArray U := ai_Pre_at hX0 hJ0 (.ref a :: (st.take n).reverse)
            have hMm := hM hmk d2
            by_cases hs2 : kind % 10 = 2
            · have hop2 : op = 2 := by omega
              subst hop2
              have hini2 := (hk2.resolve_left (fun z => z hs2)).1
              have hret := (hk2.resolve_left (fun z => z hs2)).2
              by_cases hk : kind < 10
              · have hB2 := hB hk
                rw [hret] at hB2
                exact ai_goon (va_runI hF hMm ⟨hB2, hini2, hts _ hin1⟩ ⟨ai_Pre_blind _ _, hpre⟩ rfl htl2 hL.1 (g := F0 mid pc ls (st.map (ai_vm G))) hstk hroom8 hd hf) hJ0 hkk
              · have hN2 := hN hk
                rw [hret] at hN2
                exact ai_goon (va_runIN hF hMm ⟨hN2, hini2, hts _ hin1⟩ ⟨ai_Pre_blind _ _, hpre⟩ rfl htl2 hL.1 (g := F0 mid pc ls (st.map (ai_vm G))) hstk hroom8 hd hf) hJ0 hkk
            · have hop0 : op = 0 := by omega
              subst hop0
              have hrecv : ∃ cellB : Cell, H[ai_io G a]? = some cellB ∧ cellB.vm.isStatics = false ∧ s.vm.findClass m'.1.1.cls = some cellB.cls := by
                by_cases hz : kind % 10 = 0
                · have hci := hk0.resolve_left (fun z => z hz)
                  have ho := ai_J_obj (G := G) (d3 hz) hNN
                  have hr1 := va_recv hK hP (ci := ci) (q0 := a) (ai_cls_ok ci hci.1).1 ho
                  rw [← hci.2]
                  exact hr1
                · have hk3' : kind = 3 := by omega
                  have hcs := hk3.resolve_left (fun z => z hk3')
                  obtain ⟨hio, hi, -⟩ := ai_io_K (G := G) (d4 hk3')
                  have hr1 := vk_recv hE.1 hi hS
                  rw [hio, hcs]
                  exact hr1
              by_cases hk : kind < 10
              · exact ai_goon (va_runV (C := m'.1.1.cls) hF hMm ⟨hB hk, hts _ hin1, hts _ (hsel hs2)⟩ ⟨ai_Pre_blind _ _, hrecv, hpre⟩ rfl htl2 hL.1 (g := F0 mid pc ls (st.map (ai_vm G))) hstk hroom8 hd hf) hJ0 hkk
              · exact ai_goon (va_runVN (C := m'.1.1.cls) hF hMm ⟨hN hk, hts _ hin1, hts _ (hsel hs2)⟩ ⟨ai_Pre_blind _ _, hrecv, hpre⟩ rfl htl2 hL.1 (g := F0 mid pc ls (st.map (ai_vm G))) hstk hroom8 hd hf) hJ0 hkk
          · cases h
        · cases h
    · cases h
  · split at h
    · rename_i v _
      split at h
      · cases hq : ai_nat v pc L st k w m with
        | none => rw [hq] at h; cases h
        | some y => rw [hq] at h; cases h
      · cases h
    · cases h
theorem ai_s_nat {op : Nat} (hX : ai_X G m d p R s mid args meth c) (hJ : ai_J G s w H locs) (hL : ai_Lr G ls m.1.2.2.1 L) (h : ai_call op m ix pc L st k w = some (.inl c')) (hop : op < 3) (hd : decode m.1.2.1 pc = .ok (ai_opI op ix, 3)) (kk : ai_KK G m p l e R s mid args below meth c Q c') : W p l e R s mid args below meth c H locs k.1 k.2 Q (F0 mid pc ls (st.map (ai_vm G))) := by
  unfold ai_call at h
  split at h
  · try dsimp only at h
    split at h
    · split at h
      · split at h
        · cases h
        · cases h
      · split at h
        · split at h
          · cases h
          · cases h
        · cases h
    · cases h
  · split at h
    · rename_i v hlk
      split at h
      · rename_i hv
        have hn : ai_nat v pc L st k w m = some c' := by
          cases hq : ai_nat v pc L st k w m with
          | none => rw [hq] at h; cases h
          | some y => rw [hq] at h; cases h; rfl
        obtain ⟨h0, h1, h2⟩ := hv
        by_cases v0 : v = 0
        · have e := h0 v0
          subst e
          subst v0
          exact ai_s_objinit hX hJ hL hlk hn hd kk
        · by_cases v1 : v = 1
          · have e := h1 v1
            subst e
            subst v1
            exact ai_s_arraycopy hX hJ hL hlk hn hd kk
          · by_cases v2 : v = 2
            · have e := h2 v2
              subst e
              subst v2
              exact ai_s_clone hX hJ hL hlk hn hd kk
            · unfold ai_nat at hn
              split at hn
              · exact absurd rfl v0
              · exact absurd rfl v1
              · exact absurd rfl v2
              · cases hn
      · cases h
    · cases h
/-- a run of the abstract machine is a run of the machine: of one method's body -/
def ai_P (n : Nat) : Prop := ∀ (l : Launch) (G : ai_G) (d : Nat) (m : ai_M) (c0 : ai_C) (r : Option Value) (w' : ai_H), ai_ex n d m c0 = some (r, w') → ∀ {p : Program} {e : Env} {R : Room} {s : State} {mid : MethodId} {args : Array Value} {below : List Frame} {meth : Method} {c : Code} {H : Heap} {locs : List Loc} {ls : Array Slot} {Q : State → Prop}, ai_X G m d p R s mid args meth c → ai_J G s c0.2.2.2.2 H locs → ai_Lr G ls m.1.2.2.1 c0.2.1 → ai_RR G m p l e R s mid args below meth c Q r w' → W p l e R s mid args below meth c H locs c0.2.2.2.1.1 c0.2.2.2.1.2 Q (F0 mid c0.1 ls (c0.2.2.1.map (ai_vm G)))
theorem ai_met_of {n : Nat} (hn : ai_P n) (l : Launch) (G : ai_G) {d : Nat} {m : ai_M} {as : List Value} {w w' : ai_H} {r : Option Value} (hmok : ai_mok m = true) (hcode : Cond.code m.1.1 m.1.2.1 m.1.2.2.1 m.1.2.2.2 ∈ ai_ws m) (hlen : (ai_args as).length ≤ m.1.2.2.1) (h : ai_ex n d m (0, ai_entry as m.1.2.2.1, [], (0, 0), w) = some (r, w')) : Met l m.1.1 (ai_ws m) (ai_rm d m) (ai_Pre G w as) (ai_Post G r w') (ai_mc m) (ai_mz m) (gA G) := by
  obtain ⟨hpl, hno, hmL, hon⟩ := ai_mok_get hmok
  refine va_MetF (cc := m.1.2.1) (maxL := m.1.2.2.1) (ret := m.1.2.2.2) hpl rfl ?_
  intro p e s mid args below meth c s₁ B hml hv
  obtain ⟨rfl, hI, hK, hE⟩ := hv
  obtain ⟨hsz, hP, hscr, hNN⟩ := hI
  have hts := atoms_spec (ws := ai_ws m) B.pre
  have hown : s.vm.findClass (ai_own.getD (ai_ow m) "") = some mid.cls := by
    have h1 := findClass_of_methodNamed B.named
    rw [← hon] at h1
    exact h1
  rw [lg_entry_eq]
  refine hn l G d m _ r w' h ⟨B.exec, B.bytes, hml, hown, fun w hw => hts w (List.mem_cons_of_mem _ hw), fun hq => (name_of_methodNamed B.named B.method).1.trans hq, hE, hK, Nat.le_refl _, Nat.le_refl _, Nat.le_refl _, Nat.le_refl _, by omega⟩ ⟨hP, va_S.rf, hsz, hscr, hNN⟩ (ai_entry_Lr G hlen) (ai_RR_met B.exec B.bytes B.returns B.notSynchronized)
theorem ai_sound : ∀ n, ai_P n := by
  intro n
  induction n with
  | zero =>
    intro l G d m c0 r w' h
    cases h
  | succ n ih =>
    intro l G d m c0 r w' h p e R s mid args below meth c H locs ls Q hX hJ hL hR
    obtain ⟨pc, L, st, k, w⟩ := c0
    unfold ai_ex at h
    cases hs : ai_step m (pc, L, st, k, w) with
    | none => rw [hs] at h; cases h
    | some res =>
      rw [hs] at h
      have hinv : ∀ op ix, op < 3 → decode m.1.2.1 pc = .ok (ai_opI op ix, 3) → ai_call op m ix pc L st k w = some res → W p l e R s mid args below meth c H locs k.1 k.2 Q (F0 mid pc ls (st.map (ai_vm G))) := by
        intro op ix hop hd hc
        match res, h, hc with
        | .inl c', h, hc => exact ai_s_nat hX hJ hL hc hop hd (fun H' locs' ls' hJ' hL' => ih l G d m c' r w' h hX hJ' hL' hR)
        | .inr (.inl r1), h, hc =>
          exfalso
          unfold ai_call at hc
          split at hc
          · try dsimp only at hc
            split at hc
            · split at hc
              · split at hc
                · cases hc
                · cases hc
              · split at hc
                · split at hc
                  · cases hc
                  · cases hc
                · cases hc
            · cases hc
          · split at hc
            · rename_i v _
              split at hc
              · cases hq : ai_nat v pc L st k w m with
                | none => rw [hq] at hc; cases hc
                | some y => rw [hq] at hc; cases hc
              · cases hc
            · cases hc
        | .inr (.inr (m', as, rest)), h, hc =>
          match d, hX, h with
          | 0, _, h => cases h
          | d' + 1, hX, h =>
            dsimp only at h
            cases he : ai_ex n d' m' (0, ai_entry as m'.1.2.2.1, [], (0, 0), w) with
            | none => rw [he] at h; cases h
            | some q =>
              obtain ⟨r1, w1⟩ := q
              rw [he] at h
              exact ai_s_inv hX hJ hL hc hop hd (fun hmok hlen => ai_met_of ih l G hmok List.mem_cons_self hlen he) (fun H' locs' hJ' => ih l G (d' + 1) m _ r w' h hX hJ' hL hR)
      unfold ai_step at hs
      split at hs
      · rename_i i len hd
        have hretc : ai_ret m i st k = some res → len = 1 → W p l e R s mid args below meth c H locs k.1 k.2 Q (F0 mid pc ls (st.map (ai_vm G))) := by
          intro h1 hlen
          subst hlen
          unfold ai_ret at h1
          split at h1
          · rename_i hkk
            cases hq : ai_ret0 m i st with
            | none => rw [hq] at h1; cases h1
            | some r1 =>
              rw [hq] at h1
              cases h1
              cases h
              exact hR H locs k.1 k.2 pc ls i st hJ hkk.1 hkk.2 hd hq
          · cases h1
        split at hs
        · rename_i ix
          split at hs
          · rename_i hlen
            subst hlen
            exact hinv 0 ix (by decide) hd hs
          · cases hs
        · rename_i ix
          split at hs
          · rename_i hlen
            subst hlen
            exact hinv 1 ix (by decide) hd hs
          · cases hs
        · rename_i ix
          split at hs
          · rename_i hlen
            subst hlen
            exact hinv 2 ix (by decide) hd hs
          · cases hs
        · split at hs
          · rename_i hlen; exact hretc hs hlen
          · cases hs
        · split at hs
          · rename_i hlen; exact hretc hs hlen
          · cases hs
        · split at hs
          · rename_i hlen; exact hretc hs hlen
          · cases hs
        · split at hs
          · rename_i hlen; exact hretc hs hlen
          · cases hs
        · split at hs
          · rename_i hln
            cases hq : ai_stepI m i pc L st k w with
            | none => rw [hq] at hs; cases hs
            | some c' =>
              rw [hq] at hs
              cases hs
              exact ai_sndI hX hJ hL hq hln hd (fun H' locs' ls' hJ' hL' => ih l G d m c' r w' h hX hJ' hL' hR)
          · cases hs
      · cases hs
end AISND4
