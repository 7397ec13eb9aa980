/-! printed by wip/gen/rules.py: a rewrite rule a kind of instruction -/
section EXI
variable {d : Nat} {m : ai_M} {pc len : Nat} {L L' : List (Option Value)} {st : List Value} {k : Nat × Nat} {w : ai_H} {Q : Option Value → ai_H → Prop} {x y v : Int32} {xl yl vl : Int64} {a : Nat}
def gI (w : ai_H) (a : Nat) (j : Int32) : Prop := ((mS w a).1 = 2 ∧ ai_ib j (mS w a).2 = true) ∨ (ai_isX a = true ∧ ai_ib j (ai_sl w) = true)
def gZ (w : ai_H) (a : Nat) (j : Int32) : Prop := (mS w a).1 = 3 ∧ ai_ib j (mS w a).2 = true
def gP (w : ai_H) (a : Nat) (j : Int32) : Prop := ((mS w a).1 = 4 ∨ (mS w a).1 = 5) ∧ ai_ib j (mS w a).2 = true
def gJ (w : ai_H) (a : Nat) (j : Int32) : Prop := (mS w a).1 = 2 ∧ ai_ib j (mS w a).2 = true
def gQ (w : ai_H) (a r : Nat) (j : Int32) : Prop := (((mS w a).1 = 4 ∧ mS w r = (1, 5)) ∨ ((mS w a).1 = 5 ∧ mS w r = (1, 4))) ∧ ai_ib j (mS w a).2 = true
def gN' (w : ai_H) (m : ai_M) (k : Nat × Nat) (n : Int32) : Prop := ¬ n < 0 ∧ n.toNatClampNeg ≤ 100000 ∧ k.1 + 1 ≤ ai_mc m ∧ k.2 + n.toNatClampNeg ≤ ai_mz m ∧ mN w < 1000000
def gO (w : ai_H) (m : ai_M) (k : Nat × Nat) (ci : Nat) : Prop := ci < 8 ∧ k.1 + 1 ≤ ai_mc m ∧ k.2 + ai_nf ci ≤ ai_mz m ∧ mN w < 1000000
def gC' (m m' : ai_M) (k : Nat × Nat) : Prop := k.1 + ai_mc m' ≤ ai_mc m ∧ k.2 + ai_mz m' ≤ ai_mz m
def gR (m : ai_M) (k : Nat × Nat) : Prop := k.1 ≤ ai_mc m ∧ k.2 ≤ ai_mz m
def mV (a : Nat) (j : Int32) : Int32 := (ai_byt.getD (a - 1000100) []).getD j.toNatClampNeg 0
def gV' (a : Nat) (j : Int32) : Prop := ai_isV a = true ∧ ai_ib j (ai_len.getD (a - 1000100) 0) = true
theorem Ex_iconst {n : Int} (hd : decode m.1.2.1 pc = .ok (.iconst n, 1)) (hv : Int32.ofInt n = v) : Ex d m pc L (st) k w Q ↔ Ex d m (pc + 1) L (.int v :: st) k w Q := Ex_step (c' := (pc + 1, L, .int v :: st, k, w)) (by rw [ai_step_I hd rfl rfl rfl]; simp only [ai_stepI, hv]; rfl)
theorem Ex_bipush {n : Int} (hd : decode m.1.2.1 pc = .ok (.bipush n, 2)) (hv : (Int8.ofInt n).toInt32 = v) : Ex d m pc L (st) k w Q ↔ Ex d m (pc + 2) L (.int v :: st) k w Q := Ex_step (c' := (pc + 2, L, .int v :: st, k, w)) (by rw [ai_step_I hd rfl rfl rfl]; simp only [ai_stepI, hv]; rfl)
theorem Ex_sipush {n : Int} (hd : decode m.1.2.1 pc = .ok (.sipush n, 3)) (hv : (Int16.ofInt n).toInt32 = v) : Ex d m pc L (st) k w Q ↔ Ex d m (pc + 3) L (.int v :: st) k w Q := Ex_step (c' := (pc + 3, L, .int v :: st, k, w)) (by rw [ai_step_I hd rfl rfl rfl]; simp only [ai_stepI, hv]; rfl)
theorem Ex_lconst {n : Fin 2} (hd : decode m.1.2.1 pc = .ok (.lconst n, 1)) (hv : Int64.ofNat (n : Nat) = vl) : Ex d m pc L (st) k w Q ↔ Ex d m (pc + 1) L (.long vl :: st) k w Q := Ex_step (c' := (pc + 1, L, .long vl :: st, k, w)) (by rw [ai_step_I hd rfl rfl rfl]; simp only [ai_stepI, hv]; rfl)
theorem Ex_iload_n {n : Fin 4} (hd : decode m.1.2.1 pc = .ok (.iload_n n, 1)) (hl : ai_ld L (n : Nat) = some (.int x)) : Ex d m pc L (st) k w Q ↔ Ex d m (pc + 1) L (.int x :: st) k w Q := Ex_step (c' := (pc + 1, L, .int x :: st, k, w)) (by rw [ai_step_I hd rfl rfl rfl]; simp only [ai_stepI, hl]; rfl)
theorem Ex_iload {n : Nat} (hd : decode m.1.2.1 pc = .ok (.iload n, 2)) (hl : ai_ld L n = some (.int x)) : Ex d m pc L (st) k w Q ↔ Ex d m (pc + 2) L (.int x :: st) k w Q := Ex_step (c' := (pc + 2, L, .int x :: st, k, w)) (by rw [ai_step_I hd rfl rfl rfl]; simp only [ai_stepI, hl]; rfl)
theorem Ex_lload_n {n : Fin 4} (hd : decode m.1.2.1 pc = .ok (.lload_n n, 1)) (hl : ai_ld L (n : Nat) = some (.long xl)) : Ex d m pc L (st) k w Q ↔ Ex d m (pc + 1) L (.long xl :: st) k w Q := Ex_step (c' := (pc + 1, L, .long xl :: st, k, w)) (by rw [ai_step_I hd rfl rfl rfl]; simp only [ai_stepI, hl]; rfl)
theorem Ex_lload {n : Nat} (hd : decode m.1.2.1 pc = .ok (.lload n, 2)) (hl : ai_ld L n = some (.long xl)) : Ex d m pc L (st) k w Q ↔ Ex d m (pc + 2) L (.long xl :: st) k w Q := Ex_step (c' := (pc + 2, L, .long xl :: st, k, w)) (by rw [ai_step_I hd rfl rfl rfl]; simp only [ai_stepI, hl]; rfl)
theorem Ex_aload_n {n : Fin 4} (hd : decode m.1.2.1 pc = .ok (.aload_n n, 1)) (hl : ai_ld L (n : Nat) = some (.ref a)) : Ex d m pc L (st) k w Q ↔ Ex d m (pc + 1) L (.ref a :: st) k w Q := Ex_step (c' := (pc + 1, L, .ref a :: st, k, w)) (by rw [ai_step_I hd rfl rfl rfl]; simp only [ai_stepI, hl]; rfl)
theorem Ex_aload {n : Nat} (hd : decode m.1.2.1 pc = .ok (.aload n, 2)) (hl : ai_ld L n = some (.ref a)) : Ex d m pc L (st) k w Q ↔ Ex d m (pc + 2) L (.ref a :: st) k w Q := Ex_step (c' := (pc + 2, L, .ref a :: st, k, w)) (by rw [ai_step_I hd rfl rfl rfl]; simp only [ai_stepI, hl]; rfl)
theorem Ex_istore_n {n : Fin 4} (hd : decode m.1.2.1 pc = .ok (.istore_n n, 1)) (hn : (n : Nat) < m.1.2.2.1) (hl : ai_st1 L (n : Nat) (.int x) = L') : Ex d m pc L (.int x :: st) k w Q ↔ Ex d m (pc + 1) L' (st) k w Q := Ex_step (c' := (pc + 1, L', st, k, w)) (by rw [ai_step_I hd rfl rfl rfl]; simp only [ai_stepI, if_pos hn, hl]; rfl)
theorem Ex_istore {n : Nat} (hd : decode m.1.2.1 pc = .ok (.istore n, 2)) (hn : n < m.1.2.2.1) (hl : ai_st1 L n (.int x) = L') : Ex d m pc L (.int x :: st) k w Q ↔ Ex d m (pc + 2) L' (st) k w Q := Ex_step (c' := (pc + 2, L', st, k, w)) (by rw [ai_step_I hd rfl rfl rfl]; simp only [ai_stepI, if_pos hn, hl]; rfl)
theorem Ex_lstore_n {n : Fin 4} (hd : decode m.1.2.1 pc = .ok (.lstore_n n, 1)) (hn : (n : Nat) + 1 < m.1.2.2.1) (hl : ai_st2 L (n : Nat) (.long xl) = L') : Ex d m pc L (.long xl :: st) k w Q ↔ Ex d m (pc + 1) L' (st) k w Q := Ex_step (c' := (pc + 1, L', st, k, w)) (by rw [ai_step_I hd rfl rfl rfl]; simp only [ai_stepI, if_pos hn, hl]; rfl)
theorem Ex_lstore {n : Nat} (hd : decode m.1.2.1 pc = .ok (.lstore n, 2)) (hn : n + 1 < m.1.2.2.1) (hl : ai_st2 L n (.long xl) = L') : Ex d m pc L (.long xl :: st) k w Q ↔ Ex d m (pc + 2) L' (st) k w Q := Ex_step (c' := (pc + 2, L', st, k, w)) (by rw [ai_step_I hd rfl rfl rfl]; simp only [ai_stepI, if_pos hn, hl]; rfl)
theorem Ex_astore_n {n : Fin 4} (hd : decode m.1.2.1 pc = .ok (.astore_n n, 1)) (hn : (n : Nat) < m.1.2.2.1) (hl : ai_st1 L (n : Nat) (.ref a) = L') : Ex d m pc L (.ref a :: st) k w Q ↔ Ex d m (pc + 1) L' (st) k w Q := Ex_step (c' := (pc + 1, L', st, k, w)) (by rw [ai_step_I hd rfl rfl rfl]; simp only [ai_stepI, if_pos hn, hl]; rfl)
theorem Ex_astore {n : Nat} (hd : decode m.1.2.1 pc = .ok (.astore n, 2)) (hn : n < m.1.2.2.1) (hl : ai_st1 L n (.ref a) = L') : Ex d m pc L (.ref a :: st) k w Q ↔ Ex d m (pc + 2) L' (st) k w Q := Ex_step (c' := (pc + 2, L', st, k, w)) (by rw [ai_step_I hd rfl rfl rfl]; simp only [ai_stepI, if_pos hn, hl]; rfl)
theorem Ex_iinc {n : Nat} {z : Int} (hd : decode m.1.2.1 pc = .ok (.iinc n z, 3)) (hx : ai_ld L n = some (.int x)) (hn : n < m.1.2.2.1) (hv : Int32.ofInt z = v) (hl : ai_st1 L n (.int (x + v)) = L') : Ex d m pc L (st) k w Q ↔ Ex d m (pc + 3) L' (st) k w Q := Ex_step (c' := (pc + 3, L', st, k, w)) (by rw [ai_step_I hd rfl rfl rfl]; simp only [ai_stepI, hx, if_pos hn, hv, hl]; rfl)
theorem Ex_iadd  (hd : decode m.1.2.1 pc = .ok (.iadd, 1))  : Ex d m pc L (.int y :: .int x :: st) k w Q ↔ Ex d m (pc + 1) L (.int (x + y) :: st) k w Q := Ex_step (c' := (pc + 1, L, .int (x + y) :: st, k, w)) (by rw [ai_step_I hd rfl rfl rfl]; rfl)
theorem Ex_isub  (hd : decode m.1.2.1 pc = .ok (.isub, 1))  : Ex d m pc L (.int y :: .int x :: st) k w Q ↔ Ex d m (pc + 1) L (.int (x - y) :: st) k w Q := Ex_step (c' := (pc + 1, L, .int (x - y) :: st, k, w)) (by rw [ai_step_I hd rfl rfl rfl]; rfl)
theorem Ex_imul  (hd : decode m.1.2.1 pc = .ok (.imul, 1))  : Ex d m pc L (.int y :: .int x :: st) k w Q ↔ Ex d m (pc + 1) L (.int (x * y) :: st) k w Q := Ex_step (c' := (pc + 1, L, .int (x * y) :: st, k, w)) (by rw [ai_step_I hd rfl rfl rfl]; rfl)
theorem Ex_iand  (hd : decode m.1.2.1 pc = .ok (.iand, 1))  : Ex d m pc L (.int y :: .int x :: st) k w Q ↔ Ex d m (pc + 1) L (.int (x &&& y) :: st) k w Q := Ex_step (c' := (pc + 1, L, .int (x &&& y) :: st, k, w)) (by rw [ai_step_I hd rfl rfl rfl]; rfl)
theorem Ex_ior  (hd : decode m.1.2.1 pc = .ok (.ior, 1))  : Ex d m pc L (.int y :: .int x :: st) k w Q ↔ Ex d m (pc + 1) L (.int (x ||| y) :: st) k w Q := Ex_step (c' := (pc + 1, L, .int (x ||| y) :: st, k, w)) (by rw [ai_step_I hd rfl rfl rfl]; rfl)
theorem Ex_ixor  (hd : decode m.1.2.1 pc = .ok (.ixor, 1))  : Ex d m pc L (.int y :: .int x :: st) k w Q ↔ Ex d m (pc + 1) L (.int (x ^^^ y) :: st) k w Q := Ex_step (c' := (pc + 1, L, .int (x ^^^ y) :: st, k, w)) (by rw [ai_step_I hd rfl rfl rfl]; rfl)
theorem Ex_ishl  (hd : decode m.1.2.1 pc = .ok (.ishl, 1))  : Ex d m pc L (.int y :: .int x :: st) k w Q ↔ Ex d m (pc + 1) L (.int (ai_shl x y) :: st) k w Q := Ex_step (c' := (pc + 1, L, .int (ai_shl x y) :: st, k, w)) (by rw [ai_step_I hd rfl rfl rfl]; rfl)
theorem Ex_ishr  (hd : decode m.1.2.1 pc = .ok (.ishr, 1))  : Ex d m pc L (.int y :: .int x :: st) k w Q ↔ Ex d m (pc + 1) L (.int (ai_shr x y) :: st) k w Q := Ex_step (c' := (pc + 1, L, .int (ai_shr x y) :: st, k, w)) (by rw [ai_step_I hd rfl rfl rfl]; rfl)
theorem Ex_iushr  (hd : decode m.1.2.1 pc = .ok (.iushr, 1))  : Ex d m pc L (.int y :: .int x :: st) k w Q ↔ Ex d m (pc + 1) L (.int (ai_ushr x y) :: st) k w Q := Ex_step (c' := (pc + 1, L, .int (ai_ushr x y) :: st, k, w)) (by rw [ai_step_I hd rfl rfl rfl]; rfl)
theorem Ex_idiv  (hd : decode m.1.2.1 pc = .ok (.idiv, 1))  : Ex d m pc L (.int y :: .int x :: st) k w Q ↔ ¬ y = 0 ∧ Ex d m (pc + 1) L (.int (x / y) :: st) k w Q := Ex_guard (c1 := (pc + 1, L, .int (x / y) :: st, k, w)) (by rw [ai_step_I hd rfl rfl rfl]; simp only [ai_stepI]; by_cases h : y = 0 <;> simp [h, ai_go])
theorem Ex_irem  (hd : decode m.1.2.1 pc = .ok (.irem, 1))  : Ex d m pc L (.int y :: .int x :: st) k w Q ↔ ¬ y = 0 ∧ Ex d m (pc + 1) L (.int (ai_rem x y) :: st) k w Q := Ex_guard (c1 := (pc + 1, L, .int (ai_rem x y) :: st, k, w)) (by rw [ai_step_I hd rfl rfl rfl]; simp only [ai_stepI]; by_cases h : y = 0 <;> simp [h, ai_go])
theorem Ex_ldiv  (hd : decode m.1.2.1 pc = .ok (.ldiv, 1))  : Ex d m pc L (.long yl :: .long xl :: st) k w Q ↔ ¬ yl = 0 ∧ Ex d m (pc + 1) L (.long (xl / yl) :: st) k w Q := Ex_guard (c1 := (pc + 1, L, .long (xl / yl) :: st, k, w)) (by rw [ai_step_I hd rfl rfl rfl]; simp only [ai_stepI]; by_cases h : yl = 0 <;> simp [h, ai_go])
theorem Ex_lrem  (hd : decode m.1.2.1 pc = .ok (.lrem, 1))  : Ex d m pc L (.long yl :: .long xl :: st) k w Q ↔ ¬ yl = 0 ∧ Ex d m (pc + 1) L (.long (ai_reml xl yl) :: st) k w Q := Ex_guard (c1 := (pc + 1, L, .long (ai_reml xl yl) :: st, k, w)) (by rw [ai_step_I hd rfl rfl rfl]; simp only [ai_stepI]; by_cases h : yl = 0 <;> simp [h, ai_go])
theorem Ex_ineg  (hd : decode m.1.2.1 pc = .ok (.ineg, 1))  : Ex d m pc L (.int x :: st) k w Q ↔ Ex d m (pc + 1) L (.int (-x) :: st) k w Q := Ex_step (c' := (pc + 1, L, .int (-x) :: st, k, w)) (by rw [ai_step_I hd rfl rfl rfl]; rfl)
theorem Ex_ladd  (hd : decode m.1.2.1 pc = .ok (.ladd, 1))  : Ex d m pc L (.long yl :: .long xl :: st) k w Q ↔ Ex d m (pc + 1) L (.long (xl + yl) :: st) k w Q := Ex_step (c' := (pc + 1, L, .long (xl + yl) :: st, k, w)) (by rw [ai_step_I hd rfl rfl rfl]; rfl)
theorem Ex_lsub  (hd : decode m.1.2.1 pc = .ok (.lsub, 1))  : Ex d m pc L (.long yl :: .long xl :: st) k w Q ↔ Ex d m (pc + 1) L (.long (xl - yl) :: st) k w Q := Ex_step (c' := (pc + 1, L, .long (xl - yl) :: st, k, w)) (by rw [ai_step_I hd rfl rfl rfl]; rfl)
theorem Ex_lmul  (hd : decode m.1.2.1 pc = .ok (.lmul, 1))  : Ex d m pc L (.long yl :: .long xl :: st) k w Q ↔ Ex d m (pc + 1) L (.long (xl * yl) :: st) k w Q := Ex_step (c' := (pc + 1, L, .long (xl * yl) :: st, k, w)) (by rw [ai_step_I hd rfl rfl rfl]; rfl)
theorem Ex_lcmp  (hd : decode m.1.2.1 pc = .ok (.lcmp, 1))  : Ex d m pc L (.long yl :: .long xl :: st) k w Q ↔ Ex d m (pc + 1) L (.int (lg_cmp xl yl) :: st) k w Q := Ex_step (c' := (pc + 1, L, .int (lg_cmp xl yl) :: st, k, w)) (by rw [ai_step_I hd rfl rfl rfl]; rfl)
theorem Ex_lneg  (hd : decode m.1.2.1 pc = .ok (.lneg, 1))  : Ex d m pc L (.long xl :: st) k w Q ↔ Ex d m (pc + 1) L (.long (-xl) :: st) k w Q := Ex_step (c' := (pc + 1, L, .long (-xl) :: st, k, w)) (by rw [ai_step_I hd rfl rfl rfl]; rfl)
theorem Ex_i2l  (hd : decode m.1.2.1 pc = .ok (.i2l, 1))  : Ex d m pc L (.int x :: st) k w Q ↔ Ex d m (pc + 1) L (.long x.toInt64 :: st) k w Q := Ex_step (c' := (pc + 1, L, .long x.toInt64 :: st, k, w)) (by rw [ai_step_I hd rfl rfl rfl]; rfl)
theorem Ex_l2i  (hd : decode m.1.2.1 pc = .ok (.l2i, 1))  : Ex d m pc L (.long xl :: st) k w Q ↔ Ex d m (pc + 1) L (.int xl.toInt32 :: st) k w Q := Ex_step (c' := (pc + 1, L, .int xl.toInt32 :: st, k, w)) (by rw [ai_step_I hd rfl rfl rfl]; rfl)
theorem Ex_i2b  (hd : decode m.1.2.1 pc = .ok (.i2b, 1))  : Ex d m pc L (.int x :: st) k w Q ↔ Ex d m (pc + 1) L (.int (ai_i2b x) :: st) k w Q := Ex_step (c' := (pc + 1, L, .int (ai_i2b x) :: st, k, w)) (by rw [ai_step_I hd rfl rfl rfl]; rfl)
theorem Ex_i2s  (hd : decode m.1.2.1 pc = .ok (.i2s, 1))  : Ex d m pc L (.int x :: st) k w Q ↔ Ex d m (pc + 1) L (.int (ai_i2s x) :: st) k w Q := Ex_step (c' := (pc + 1, L, .int (ai_i2s x) :: st, k, w)) (by rw [ai_step_I hd rfl rfl rfl]; rfl)
theorem Ex_i2c  (hd : decode m.1.2.1 pc = .ok (.i2c, 1))  : Ex d m pc L (.int x :: st) k w Q ↔ Ex d m (pc + 1) L (.int (ai_i2c x) :: st) k w Q := Ex_step (c' := (pc + 1, L, .int (ai_i2c x) :: st, k, w)) (by rw [ai_step_I hd rfl rfl rfl]; rfl)
theorem Ex_dup_int  (hd : decode m.1.2.1 pc = .ok (.dup, 1))  : Ex d m pc L (.int x :: st) k w Q ↔ Ex d m (pc + 1) L (.int x :: .int x :: st) k w Q := Ex_step (c' := (pc + 1, L, .int x :: .int x :: st, k, w)) (by rw [ai_step_I hd rfl rfl rfl]; rfl)
theorem Ex_pop_int  (hd : decode m.1.2.1 pc = .ok (.pop, 1))  : Ex d m pc L (.int x :: st) k w Q ↔ Ex d m (pc + 1) L (st) k w Q := Ex_step (c' := (pc + 1, L, st, k, w)) (by rw [ai_step_I hd rfl rfl rfl]; rfl)
theorem Ex_dup_ref  (hd : decode m.1.2.1 pc = .ok (.dup, 1))  : Ex d m pc L (.ref a :: st) k w Q ↔ Ex d m (pc + 1) L (.ref a :: .ref a :: st) k w Q := Ex_step (c' := (pc + 1, L, .ref a :: .ref a :: st, k, w)) (by rw [ai_step_I hd rfl rfl rfl]; rfl)
theorem Ex_pop_ref  (hd : decode m.1.2.1 pc = .ok (.pop, 1))  : Ex d m pc L (.ref a :: st) k w Q ↔ Ex d m (pc + 1) L (st) k w Q := Ex_step (c' := (pc + 1, L, st, k, w)) (by rw [ai_step_I hd rfl rfl rfl]; rfl)
theorem Ex_dup_float {f : UInt32} (hd : decode m.1.2.1 pc = .ok (.dup, 1))  : Ex d m pc L (.float f :: st) k w Q ↔ Ex d m (pc + 1) L (.float f :: .float f :: st) k w Q := Ex_step (c' := (pc + 1, L, .float f :: .float f :: st, k, w)) (by rw [ai_step_I hd rfl rfl rfl]; rfl)
theorem Ex_pop_float {f : UInt32} (hd : decode m.1.2.1 pc = .ok (.pop, 1))  : Ex d m pc L (.float f :: st) k w Q ↔ Ex d m (pc + 1) L (st) k w Q := Ex_step (c' := (pc + 1, L, st, k, w)) (by rw [ai_step_I hd rfl rfl rfl]; rfl)
theorem Ex_dup_x1  (hd : decode m.1.2.1 pc = .ok (.dup_x1, 1))  : Ex d m pc L (.int x :: .ref a :: st) k w Q ↔ Ex d m (pc + 1) L (.int x :: .ref a :: .int x :: st) k w Q := Ex_step (c' := (pc + 1, L, .int x :: .ref a :: .int x :: st, k, w)) (by rw [ai_step_I hd rfl rfl rfl]; rfl)
theorem Ex_ifCond_eq {off : Int} {t : Nat} (hd : decode m.1.2.1 pc = .ok (.ifCond .eq off, 3)) (ht : (pc : Int) + off = (t : Int)) : Ex d m pc L (.int x :: st) k w Q ↔ if x = 0 then Ex d m t L (st) k w Q else Ex d m (pc + 3) L (st) k w Q := Ex_if (c1 := (t, L, st, k, w)) (c2 := (pc + 3, L, st, k, w)) (by
    have h0 : 0 ≤ (pc : Int) + off := by omega
    have ht : ai_tg pc off = t := by unfold ai_tg; omega
    rw [ai_step_I hd rfl rfl rfl]
    simp only [ai_stepI, ai_br, if_pos h0, ht, ai_cond]
    by_cases hc : x = 0 <;> simp [hc, ai_go])
theorem Ex_if_icmp_eq {off : Int} {t : Nat} (hd : decode m.1.2.1 pc = .ok (.if_icmp .eq off, 3)) (ht : (pc : Int) + off = (t : Int)) : Ex d m pc L (.int y :: .int x :: st) k w Q ↔ if x = y then Ex d m t L (st) k w Q else Ex d m (pc + 3) L (st) k w Q := Ex_if (c1 := (t, L, st, k, w)) (c2 := (pc + 3, L, st, k, w)) (by
    have h0 : 0 ≤ (pc : Int) + off := by omega
    have ht : ai_tg pc off = t := by unfold ai_tg; omega
    rw [ai_step_I hd rfl rfl rfl]
    simp only [ai_stepI, ai_br, if_pos h0, ht, ai_cond]
    by_cases hc : x = y <;> simp [hc, ai_go])
theorem Ex_ifCond_ne {off : Int} {t : Nat} (hd : decode m.1.2.1 pc = .ok (.ifCond .ne off, 3)) (ht : (pc : Int) + off = (t : Int)) : Ex d m pc L (.int x :: st) k w Q ↔ if ¬ x = 0 then Ex d m t L (st) k w Q else Ex d m (pc + 3) L (st) k w Q := Ex_if (c1 := (t, L, st, k, w)) (c2 := (pc + 3, L, st, k, w)) (by
    have h0 : 0 ≤ (pc : Int) + off := by omega
    have ht : ai_tg pc off = t := by unfold ai_tg; omega
    rw [ai_step_I hd rfl rfl rfl]
    simp only [ai_stepI, ai_br, if_pos h0, ht, ai_cond]
    by_cases hc : x = 0 <;> simp [hc, ai_go])
theorem Ex_if_icmp_ne {off : Int} {t : Nat} (hd : decode m.1.2.1 pc = .ok (.if_icmp .ne off, 3)) (ht : (pc : Int) + off = (t : Int)) : Ex d m pc L (.int y :: .int x :: st) k w Q ↔ if ¬ x = y then Ex d m t L (st) k w Q else Ex d m (pc + 3) L (st) k w Q := Ex_if (c1 := (t, L, st, k, w)) (c2 := (pc + 3, L, st, k, w)) (by
    have h0 : 0 ≤ (pc : Int) + off := by omega
    have ht : ai_tg pc off = t := by unfold ai_tg; omega
    rw [ai_step_I hd rfl rfl rfl]
    simp only [ai_stepI, ai_br, if_pos h0, ht, ai_cond]
    by_cases hc : x = y <;> simp [hc, ai_go])
theorem Ex_ifCond_lt {off : Int} {t : Nat} (hd : decode m.1.2.1 pc = .ok (.ifCond .lt off, 3)) (ht : (pc : Int) + off = (t : Int)) : Ex d m pc L (.int x :: st) k w Q ↔ if x < 0 then Ex d m t L (st) k w Q else Ex d m (pc + 3) L (st) k w Q := Ex_if (c1 := (t, L, st, k, w)) (c2 := (pc + 3, L, st, k, w)) (by
    have h0 : 0 ≤ (pc : Int) + off := by omega
    have ht : ai_tg pc off = t := by unfold ai_tg; omega
    rw [ai_step_I hd rfl rfl rfl]
    simp only [ai_stepI, ai_br, if_pos h0, ht, ai_cond]
    by_cases hc : x < 0 <;> simp [hc, ai_go])
theorem Ex_if_icmp_lt {off : Int} {t : Nat} (hd : decode m.1.2.1 pc = .ok (.if_icmp .lt off, 3)) (ht : (pc : Int) + off = (t : Int)) : Ex d m pc L (.int y :: .int x :: st) k w Q ↔ if x < y then Ex d m t L (st) k w Q else Ex d m (pc + 3) L (st) k w Q := Ex_if (c1 := (t, L, st, k, w)) (c2 := (pc + 3, L, st, k, w)) (by
    have h0 : 0 ≤ (pc : Int) + off := by omega
    have ht : ai_tg pc off = t := by unfold ai_tg; omega
    rw [ai_step_I hd rfl rfl rfl]
    simp only [ai_stepI, ai_br, if_pos h0, ht, ai_cond]
    by_cases hc : x < y <;> simp [hc, ai_go])
theorem Ex_ifCond_ge {off : Int} {t : Nat} (hd : decode m.1.2.1 pc = .ok (.ifCond .ge off, 3)) (ht : (pc : Int) + off = (t : Int)) : Ex d m pc L (.int x :: st) k w Q ↔ if 0 ≤ x then Ex d m t L (st) k w Q else Ex d m (pc + 3) L (st) k w Q := Ex_if (c1 := (t, L, st, k, w)) (c2 := (pc + 3, L, st, k, w)) (by
    have h0 : 0 ≤ (pc : Int) + off := by omega
    have ht : ai_tg pc off = t := by unfold ai_tg; omega
    rw [ai_step_I hd rfl rfl rfl]
    simp only [ai_stepI, ai_br, if_pos h0, ht, ai_cond]
    by_cases hc : 0 ≤ x <;> simp [hc, ai_go])
theorem Ex_if_icmp_ge {off : Int} {t : Nat} (hd : decode m.1.2.1 pc = .ok (.if_icmp .ge off, 3)) (ht : (pc : Int) + off = (t : Int)) : Ex d m pc L (.int y :: .int x :: st) k w Q ↔ if y ≤ x then Ex d m t L (st) k w Q else Ex d m (pc + 3) L (st) k w Q := Ex_if (c1 := (t, L, st, k, w)) (c2 := (pc + 3, L, st, k, w)) (by
    have h0 : 0 ≤ (pc : Int) + off := by omega
    have ht : ai_tg pc off = t := by unfold ai_tg; omega
    rw [ai_step_I hd rfl rfl rfl]
    simp only [ai_stepI, ai_br, if_pos h0, ht, ai_cond]
    by_cases hc : y ≤ x <;> simp [hc, ai_go])
theorem Ex_ifCond_gt {off : Int} {t : Nat} (hd : decode m.1.2.1 pc = .ok (.ifCond .gt off, 3)) (ht : (pc : Int) + off = (t : Int)) : Ex d m pc L (.int x :: st) k w Q ↔ if 0 < x then Ex d m t L (st) k w Q else Ex d m (pc + 3) L (st) k w Q := Ex_if (c1 := (t, L, st, k, w)) (c2 := (pc + 3, L, st, k, w)) (by
    have h0 : 0 ≤ (pc : Int) + off := by omega
    have ht : ai_tg pc off = t := by unfold ai_tg; omega
    rw [ai_step_I hd rfl rfl rfl]
    simp only [ai_stepI, ai_br, if_pos h0, ht, ai_cond]
    by_cases hc : 0 < x <;> simp [hc, ai_go])
theorem Ex_if_icmp_gt {off : Int} {t : Nat} (hd : decode m.1.2.1 pc = .ok (.if_icmp .gt off, 3)) (ht : (pc : Int) + off = (t : Int)) : Ex d m pc L (.int y :: .int x :: st) k w Q ↔ if y < x then Ex d m t L (st) k w Q else Ex d m (pc + 3) L (st) k w Q := Ex_if (c1 := (t, L, st, k, w)) (c2 := (pc + 3, L, st, k, w)) (by
    have h0 : 0 ≤ (pc : Int) + off := by omega
    have ht : ai_tg pc off = t := by unfold ai_tg; omega
    rw [ai_step_I hd rfl rfl rfl]
    simp only [ai_stepI, ai_br, if_pos h0, ht, ai_cond]
    by_cases hc : y < x <;> simp [hc, ai_go])
theorem Ex_ifCond_le {off : Int} {t : Nat} (hd : decode m.1.2.1 pc = .ok (.ifCond .le off, 3)) (ht : (pc : Int) + off = (t : Int)) : Ex d m pc L (.int x :: st) k w Q ↔ if x ≤ 0 then Ex d m t L (st) k w Q else Ex d m (pc + 3) L (st) k w Q := Ex_if (c1 := (t, L, st, k, w)) (c2 := (pc + 3, L, st, k, w)) (by
    have h0 : 0 ≤ (pc : Int) + off := by omega
    have ht : ai_tg pc off = t := by unfold ai_tg; omega
    rw [ai_step_I hd rfl rfl rfl]
    simp only [ai_stepI, ai_br, if_pos h0, ht, ai_cond]
    by_cases hc : x ≤ 0 <;> simp [hc, ai_go])
theorem Ex_if_icmp_le {off : Int} {t : Nat} (hd : decode m.1.2.1 pc = .ok (.if_icmp .le off, 3)) (ht : (pc : Int) + off = (t : Int)) : Ex d m pc L (.int y :: .int x :: st) k w Q ↔ if x ≤ y then Ex d m t L (st) k w Q else Ex d m (pc + 3) L (st) k w Q := Ex_if (c1 := (t, L, st, k, w)) (c2 := (pc + 3, L, st, k, w)) (by
    have h0 : 0 ≤ (pc : Int) + off := by omega
    have ht : ai_tg pc off = t := by unfold ai_tg; omega
    rw [ai_step_I hd rfl rfl rfl]
    simp only [ai_stepI, ai_br, if_pos h0, ht, ai_cond]
    by_cases hc : x ≤ y <;> simp [hc, ai_go])
theorem Ex_goto {off : Int} {t : Nat} (hd : decode m.1.2.1 pc = .ok (.goto off, 3)) (ht : (pc : Int) + off = (t : Int)) : Ex d m pc L (st) k w Q ↔ Ex d m t L (st) k w Q := Ex_step (c' := (t, L, st, k, w)) (by
    have h0 : 0 ≤ (pc : Int) + off := by omega
    have ht : ai_tg pc off = t := by unfold ai_tg; omega
    rw [ai_step_I hd rfl rfl rfl]
    simp only [ai_stepI, if_pos h0, ht]
    rfl)
theorem Ex_ifnull_ref {off : Int} (hd : decode m.1.2.1 pc = .ok (.ifnull off, 3))  : Ex d m pc L (.ref a :: st) k w Q ↔ Ex d m (pc + 3) L (st) k w Q := Ex_step (c' := (pc + 3, L, st, k, w)) (by rw [ai_step_I hd rfl rfl rfl]; rfl)
theorem Ex_ifnull_null {off : Int} {t : Nat} (hd : decode m.1.2.1 pc = .ok (.ifnull off, 3)) (ht : (pc : Int) + off = (t : Int)) : Ex d m pc L (.null :: st) k w Q ↔ Ex d m t L (st) k w Q := Ex_step (c' := (t, L, st, k, w)) (by
    have h0 : 0 ≤ (pc : Int) + off := by omega
    have ht : ai_tg pc off = t := by unfold ai_tg; omega
    rw [ai_step_I hd rfl rfl rfl]
    simp only [ai_stepI, if_pos h0, ht]
    rfl)
/-- a switch: the targets by turn -/
def ExSw (x : Int32) (lo : Int) (ts : List Nat) (df : Nat) (F : Nat → Prop) : Prop := match ts with
  | [] => F df
  | t :: ts => if x.toInt = lo then F t else ExSw x (lo + 1) ts df F
theorem ExSw_out (x : Int32) (df : Nat) (F : Nat → Prop) : ∀ (ts : List Nat) (lo : Int), (x.toInt < lo ∨ lo + ts.length ≤ x.toInt) → (ExSw x lo ts df F ↔ F df) := by
  intro ts
  induction ts with
  | nil => intro lo _; exact Iff.rfl
  | cons t ts ih =>
    intro lo h
    unfold ExSw
    rw [List.length_cons] at h
    rw [if_neg (by omega)]
    exact ih (lo + 1) (by omega)
theorem ExSw_in (x : Int32) (df : Nat) (F : Nat → Prop) : ∀ (ts : List Nat) (lo : Int) (t : Nat), lo ≤ x.toInt → ts[(x.toInt - lo).toNat]? = some t → (ExSw x lo ts df F ↔ F t) := by
  intro ts
  induction ts with
  | nil => intro lo t _ h; simp at h
  | cons u ts ih =>
    intro lo t h1 h
    unfold ExSw
    by_cases h2 : x.toInt = lo
    · rw [if_pos h2]
      have h3 : (x.toInt - lo).toNat = 0 := by omega
      rw [h3] at h
      cases h
      exact Iff.rfl
    · rw [if_neg h2]
      have h3 : (x.toInt - lo).toNat = (x.toInt - (lo + 1)).toNat + 1 := by omega
      rw [h3] at h
      exact ih (lo + 1) t (by omega) h
theorem Ex_switch {df lo hi : Int} {offs : Array Int} {dt : Nat} {ts : List Nat} (hd : decode m.1.2.1 pc = .ok (.tableswitch df lo hi offs, len)) (hdt : (pc : Int) + df = (dt : Int)) (hts : offs.toList.map (fun o => (pc : Int) + o) = ts.map (fun (t : Nat) => (t : Int))) (hlen : hi = lo + ts.length - 1) : Ex d m pc L (.int x :: st) k w Q ↔ ExSw x lo ts dt (fun t => Ex d m t L st k w Q) := by
  have hz : ai_step m (pc, L, .int x :: st, k, w) = (ai_stepI m (.tableswitch df lo hi offs) pc L (.int x :: st) k w).map Sum.inl := ai_step_I hd rfl rfl rfl
  by_cases h : x.toInt < lo ∨ hi < x.toInt
  · rw [ExSw_out x dt _ ts lo (by omega)]
    refine Ex_step (c' := (dt, L, st, k, w)) (by
      have h0 : 0 ≤ (pc : Int) + df := by omega
      have ht : ai_tg pc df = dt := by unfold ai_tg; omega
      rw [hz]
      simp only [ai_stepI, if_pos h, if_pos h0, ht]
      rfl)
  · have hlt : (x.toInt - lo).toNat < ts.length := by omega
    have ho : (offs.toList.map (fun o => (pc : Int) + o))[(x.toInt - lo).toNat]? = some ((ts[(x.toInt - lo).toNat] : Nat) : Int) := by
      rw [hts, List.getElem?_map, List.getElem?_eq_getElem hlt]
      rfl
    rw [List.getElem?_map] at ho
    obtain ⟨off, ho1, ho2⟩ := Option.map_eq_some_iff.mp ho
    have ho3 : offs[(x.toInt - lo).toNat]? = some off := by rw [← Array.getElem?_toList]; exact ho1
    rw [ExSw_in x dt _ ts lo (ts[(x.toInt - lo).toNat]) (by omega) (List.getElem?_eq_getElem hlt)]
    refine Ex_step (c' := (ts[(x.toInt - lo).toNat], L, st, k, w)) (by
      have h0 : 0 ≤ (pc : Int) + off := by omega
      have ht : ai_tg pc off = ts[(x.toInt - lo).toNat] := by unfold ai_tg; omega
      rw [hz]
      simp only [ai_stepI, if_neg h, ho3, if_pos h0, ht]
      rfl)
variable {ix ci f kind fin nst : Nat}
theorem Ex_getI  (hd : decode m.1.2.1 pc = .ok (.getfield ix, 3)) (hl : ai_look ai_fT (ai_ow m) ix = some ((ci, f, kind), (fin, nst))) (hk : kind < 5) (hf : f < ai_nf ci) (hp : ai_isP ci f = false) : Ex d m pc L (.ref a :: st) k w Q ↔ mS w a = (1, ci) ∧ Ex d m (pc + 3) L (.int (mI w a f) :: st) k w Q := Ex_guard (c1 := (pc + 3, L, .int (mI w a f) :: st, k, w)) (by rw [ai_step_I hd rfl rfl rfl]; simp only [ai_stepI, hl, if_pos hk, hp]; by_cases h : mS w a = (1, ci) <;> simp [h, hf, ai_go])
theorem Ex_getP  (hd : decode m.1.2.1 pc = .ok (.getfield ix, 3)) (hl : ai_look ai_fT (ai_ow m) ix = some ((ci, f, kind), (fin, nst))) (hk : kind < 5) (hf : f < ai_nf ci) (hp : ai_isP ci f = true) : Ex d m pc L (.ref a :: st) k w Q ↔ mS w a = (1, ci) ∧ Ex d m (pc + 3) L (ai_rf (mP w a f) :: st) k w Q := Ex_guard (c1 := (pc + 3, L, ai_rf (mP w a f) :: st, k, w)) (by rw [ai_step_I hd rfl rfl rfl]; simp only [ai_stepI, hl, if_pos hk, hp]; by_cases h : mS w a = (1, ci) <;> simp [h, hf, ai_go])
theorem Ex_getK  (hd : decode m.1.2.1 pc = .ok (.getfield ix, 3)) (hl : ai_look ai_fT (ai_ow m) ix = some ((ci, f, kind), (fin, nst))) (hk : kind = 5) : Ex d m pc L (.ref a :: st) k w Q ↔ ai_isK a = true ∧ Ex d m (pc + 3) L (.int 0 :: st) k w Q := Ex_guard (c1 := (pc + 3, L, .int 0 :: st, k, w)) (by rw [ai_step_I hd rfl rfl rfl]; simp only [ai_stepI, hl]; by_cases h : ai_isK a = true <;> simp [h, hk, ai_go])
theorem Ex_getV  (hd : decode m.1.2.1 pc = .ok (.getfield ix, 3)) (hl : ai_look ai_fT (ai_ow m) ix = some ((ci, f, kind), (fin, nst))) (hk : kind = 6) : Ex d m pc L (.ref a :: st) k w Q ↔ ai_isK a = true ∧ Ex d m (pc + 3) L (.ref (a + 100) :: st) k w Q := Ex_guard (c1 := (pc + 3, L, .ref (a + 100) :: st, k, w)) (by rw [ai_step_I hd rfl rfl rfl]; simp only [ai_stepI, hl]; by_cases h : ai_isK a = true <;> simp [h, hk, ai_go])
theorem Ex_putI  (hd : decode m.1.2.1 pc = .ok (.putfield ix, 3)) (hl : ai_look ai_fT (ai_ow m) ix = some ((ci, f, kind), (fin, nst))) (hk : kind < 5) (hf : f < ai_nf ci) (hp : ai_isP ci f = false) (hty : ai_ty ci f = .int) (hfin : fin = 0 ∨ (m.1.1.name = "<init>" ∧ nst = 0)) : Ex d m pc L (.int x :: .ref a :: st) k w Q ↔ mS w a = (1, ci) ∧ Ex d m (pc + 3) L (st) k (msI w a f x) Q := Ex_guard (c1 := (pc + 3, L, st, k, (msI w a f x))) (by rw [ai_step_I hd rfl rfl rfl]; simp only [ai_stepI, hl]; by_cases h : mS w a = (1, ci) <;> simp [h, hk, hf, hp, hfin, hty, narrow, fits, ai_go])
theorem Ex_putZ  (hd : decode m.1.2.1 pc = .ok (.putfield ix, 3)) (hl : ai_look ai_fT (ai_ow m) ix = some ((ci, f, kind), (fin, nst))) (hk : kind < 5) (hf : f < ai_nf ci) (hp : ai_isP ci f = false) (hnar : narrow (ai_ty ci f) (.int x) = .int x) (hfit : fits (ai_ty ci f) (.int x) = true) (hfin : fin = 0 ∨ (m.1.1.name = "<init>" ∧ nst = 0)) : Ex d m pc L (.int x :: .ref a :: st) k w Q ↔ mS w a = (1, ci) ∧ Ex d m (pc + 3) L (st) k (msI w a f x) Q := Ex_guard (c1 := (pc + 3, L, st, k, (msI w a f x))) (by rw [ai_step_I hd rfl rfl rfl]; simp only [ai_stepI, hl]; by_cases h : mS w a = (1, ci) <;> simp [h, hk, hf, hp, hfin, hnar, hfit, ai_go])
theorem Ex_putP {r : Nat} (hd : decode m.1.2.1 pc = .ok (.putfield ix, 3)) (hl : ai_look ai_fT (ai_ow m) ix = some ((ci, f, kind), (fin, nst))) (hk : kind < 5) (hf : f < ai_nf ci) (hp : ai_isP ci f = true) (hfin : fin = 0 ∨ (m.1.1.name = "<init>" ∧ nst = 0)) : Ex d m pc L (.ref r :: .ref a :: st) k w Q ↔ mS w a = (1, ci) ∧ Ex d m (pc + 3) L (st) k (msP w a f (some r)) Q := Ex_guard (c1 := (pc + 3, L, st, k, (msP w a f (some r)))) (by rw [ai_step_I hd rfl rfl rfl]; simp only [ai_stepI, hl]; by_cases h : mS w a = (1, ci) <;> simp [h, hk, hf, hp, hfin, ai_go])
theorem Ex_getsI  (hd : decode m.1.2.1 pc = .ok (.getstatic ix, 3)) (hl : ai_look ai_sT (ai_ow m) ix = some 0) : Ex d m pc L (st) k w Q ↔ Ex d m (pc + 3) L (.int 1 :: st) k w Q := Ex_step (c' := (pc + 3, L, .int 1 :: st, k, w)) (by rw [ai_step_I hd rfl rfl rfl]; simp only [ai_stepI, hl]; rfl)
theorem Ex_getsF  (hd : decode m.1.2.1 pc = .ok (.getstatic ix, 3)) (hl : ai_look ai_sT (ai_ow m) ix = some 1) : Ex d m pc L (st) k w Q ↔ Ex d m (pc + 3) L (.float 0 :: st) k w Q := Ex_step (c' := (pc + 3, L, .float 0 :: st, k, w)) (by rw [ai_step_I hd rfl rfl rfl]; simp only [ai_stepI, hl]; rfl)
theorem Ex_iaload  (hd : decode m.1.2.1 pc = .ok (.iaload, 1))  : Ex d m pc L (.int x :: .ref a :: st) k w Q ↔ gI w a x ∧ Ex d m (pc + 1) L (.int (mI w a x.toNatClampNeg) :: st) k w Q := by
  unfold gI
  exact Ex_guard (c1 := (pc + 1, L, .int (mI w a x.toNatClampNeg) :: st, k, w)) (by rw [ai_step_I hd rfl rfl rfl]; simp only [ai_stepI, ai_go]; split <;> rfl)
theorem Ex_zaload  (hd : decode m.1.2.1 pc = .ok (.baload, 1)) (ha : ai_isV a = false) : Ex d m pc L (.int x :: .ref a :: st) k w Q ↔ gZ w a x ∧ Ex d m (pc + 1) L (.int (mI w a x.toNatClampNeg) :: st) k w Q := by
  unfold gZ
  exact Ex_guard (c1 := (pc + 1, L, .int (mI w a x.toNatClampNeg) :: st, k, w)) (by
    rw [ai_step_I hd rfl rfl rfl]
    simp only [ai_stepI, ai_go]
    by_cases h : (mS w a).1 = 3 ∧ ai_ib x (mS w a).2 = true
    · rw [if_pos h, if_pos h]; rfl
    · rw [if_neg h, if_neg h, if_neg (fun z => by rw [ha] at z; exact absurd z.1 (by decide))]; rfl)
theorem Ex_baload  (hd : decode m.1.2.1 pc = .ok (.baload, 1)) (ha : (mS w a).1 = 0) : Ex d m pc L (.int x :: .ref a :: st) k w Q ↔ gV' a x ∧ Ex d m (pc + 1) L (.int (mV a x) :: st) k w Q := by
  unfold gV'
  exact Ex_guard (c1 := (pc + 1, L, .int (mV a x) :: st, k, w)) (by
    rw [ai_step_I hd rfl rfl rfl]
    simp only [ai_stepI, ai_go]
    rw [if_neg (fun z => absurd (z.1.symm.trans ha) (by decide))]
    split <;> rfl)
theorem Ex_aaload  (hd : decode m.1.2.1 pc = .ok (.aaload, 1))  : Ex d m pc L (.int x :: .ref a :: st) k w Q ↔ gP w a x ∧ Ex d m (pc + 1) L (ai_rf (mP w a x.toNatClampNeg) :: st) k w Q := by
  unfold gP
  exact Ex_guard (c1 := (pc + 1, L, ai_rf (mP w a x.toNatClampNeg) :: st, k, w)) (by rw [ai_step_I hd rfl rfl rfl]; simp only [ai_stepI, ai_go]; split <;> rfl)
theorem Ex_iastore  (hd : decode m.1.2.1 pc = .ok (.iastore, 1))  : Ex d m pc L (.int y :: .int x :: .ref a :: st) k w Q ↔ gJ w a x ∧ Ex d m (pc + 1) L (st) k (msI w a x.toNatClampNeg y) Q := by
  unfold gJ
  exact Ex_guard (c1 := (pc + 1, L, st, k, (msI w a x.toNatClampNeg y))) (by rw [ai_step_I hd rfl rfl rfl]; simp only [ai_stepI, ai_go]; split <;> rfl)
theorem Ex_zastore  (hd : decode m.1.2.1 pc = .ok (.bastore, 1))  : Ex d m pc L (.int y :: .int x :: .ref a :: st) k w Q ↔ gZ w a x ∧ Ex d m (pc + 1) L (st) k (msI w a x.toNatClampNeg (vp_nar .boolean y)) Q := by
  unfold gZ
  exact Ex_guard (c1 := (pc + 1, L, st, k, (msI w a x.toNatClampNeg (vp_nar .boolean y)))) (by rw [ai_step_I hd rfl rfl rfl]; simp only [ai_stepI, ai_go]; split <;> rfl)
theorem Ex_aastore {r : Nat} (hd : decode m.1.2.1 pc = .ok (.aastore, 1))  : Ex d m pc L (.ref r :: .int x :: .ref a :: st) k w Q ↔ gQ w a r x ∧ Ex d m (pc + 1) L (st) k (msP w a x.toNatClampNeg (some r)) Q := by
  unfold gQ
  exact Ex_guard (c1 := (pc + 1, L, st, k, (msP w a x.toNatClampNeg (some r)))) (by rw [ai_step_I hd rfl rfl rfl]; simp only [ai_stepI, ai_go]; split <;> rfl)
theorem Ex_alen  (hd : decode m.1.2.1 pc = .ok (.arraylength, 1)) (ha1 : ai_isV a = false) (ha2 : ai_isX a = false) : Ex d m pc L (.ref a :: st) k w Q ↔ (2 ≤ (mS w a).1 ∧ (mS w a).1 ≤ 5) ∧ Ex d m (pc + 1) L (.int (Int32.ofNat (mS w a).2) :: st) k w Q := Ex_guard (c1 := (pc + 1, L, .int (Int32.ofNat (mS w a).2) :: st, k, w)) (by
    rw [ai_step_I hd rfl rfl rfl]
    simp only [ai_stepI, ai_go]
    by_cases h : 2 ≤ (mS w a).1 ∧ (mS w a).1 ≤ 5
    · rw [if_pos h, if_pos h]; rfl
    · rw [if_neg h, if_neg h, if_neg (by rw [ha1]; decide), if_neg (by rw [ha2]; decide)]; rfl)
theorem Ex_alenV  (hd : decode m.1.2.1 pc = .ok (.arraylength, 1)) (ha : (mS w a).1 = 0) (ha2 : ai_isX a = false) : Ex d m pc L (.ref a :: st) k w Q ↔ ai_isV a = true ∧ Ex d m (pc + 1) L (.int (Int32.ofNat (ai_len.getD (a - 1000100) 0)) :: st) k w Q := Ex_guard (c1 := (pc + 1, L, .int (Int32.ofNat (ai_len.getD (a - 1000100) 0)) :: st, k, w)) (by
    rw [ai_step_I hd rfl rfl rfl]
    simp only [ai_stepI, ai_go]
    rw [if_neg (fun z => by omega)]
    by_cases h : ai_isV a = true
    · rw [if_pos h, if_pos h]; rfl
    · rw [if_neg h, if_neg h, if_neg (by rw [ha2]; decide)]; rfl)
theorem Ex_alenX  (hd : decode m.1.2.1 pc = .ok (.arraylength, 1)) (ha : (mS w a).1 = 0) (ha1 : ai_isV a = false) (ha2 : ai_isX a = true) : Ex d m pc L (.ref a :: st) k w Q ↔ Ex d m (pc + 1) L (.int (Int32.ofNat (ai_sl w)) :: st) k w Q := Ex_step (c' := (pc + 1, L, .int (Int32.ofNat (ai_sl w)) :: st, k, w)) (by
    rw [ai_step_I hd rfl rfl rfl]
    simp only [ai_stepI, ai_go]
    rw [if_neg (fun z => by omega), if_neg (by rw [ha1]; decide), if_pos ha2]
    rfl)
theorem Ex_newa_int  (hd : decode m.1.2.1 pc = .ok (.newarray .int, 2))  : Ex d m pc L (.int x :: st) k w Q ↔ gN' w m k x ∧ Ex d m (pc + 2) L (.ref (mN w) :: st) (k.1 + 1, k.2 + x.toNatClampNeg) (mnew w (2, x.toNatClampNeg)) Q := by
  unfold gN'
  exact Ex_guard (c1 := (pc + 2, L, .ref (mN w) :: st, (k.1 + 1, k.2 + x.toNatClampNeg), (mnew w (2, x.toNatClampNeg)))) (by rw [ai_step_I hd rfl rfl rfl]; simp only [ai_stepI, ai_go]; split <;> rfl)
theorem Ex_newa_boolean  (hd : decode m.1.2.1 pc = .ok (.newarray .boolean, 2))  : Ex d m pc L (.int x :: st) k w Q ↔ gN' w m k x ∧ Ex d m (pc + 2) L (.ref (mN w) :: st) (k.1 + 1, k.2 + x.toNatClampNeg) (mnew w (3, x.toNatClampNeg)) Q := by
  unfold gN'
  exact Ex_guard (c1 := (pc + 2, L, .ref (mN w) :: st, (k.1 + 1, k.2 + x.toNatClampNeg), (mnew w (3, x.toNatClampNeg)))) (by rw [ai_step_I hd rfl rfl rfl]; simp only [ai_stepI, ai_go]; split <;> rfl)
theorem Ex_anew_T  (hd : decode m.1.2.1 pc = .ok (.anewarray ix, 3)) (hl : ai_look ai_kT (ai_ow m) ix = some 5) : Ex d m pc L (.int x :: st) k w Q ↔ gN' w m k x ∧ Ex d m (pc + 3) L (.ref (mN w) :: st) (k.1 + 1, k.2 + x.toNatClampNeg) (mnew w (4, x.toNatClampNeg)) Q := by
  unfold gN'
  exact Ex_guard (c1 := (pc + 3, L, .ref (mN w) :: st, (k.1 + 1, k.2 + x.toNatClampNeg), (mnew w (4, x.toNatClampNeg)))) (by rw [ai_step_I hd rfl rfl rfl]; simp only [ai_stepI, hl, ai_go]; split <;> rfl)
theorem Ex_anew_S  (hd : decode m.1.2.1 pc = .ok (.anewarray ix, 3)) (hl : ai_look ai_kT (ai_ow m) ix = some 4) : Ex d m pc L (.int x :: st) k w Q ↔ gN' w m k x ∧ Ex d m (pc + 3) L (.ref (mN w) :: st) (k.1 + 1, k.2 + x.toNatClampNeg) (mnew w (5, x.toNatClampNeg)) Q := by
  unfold gN'
  exact Ex_guard (c1 := (pc + 3, L, .ref (mN w) :: st, (k.1 + 1, k.2 + x.toNatClampNeg), (mnew w (5, x.toNatClampNeg)))) (by rw [ai_step_I hd rfl rfl rfl]; simp only [ai_stepI, hl, ai_go]; split <;> rfl)
theorem Ex_new  (hd : decode m.1.2.1 pc = .ok (.new ix, 3)) (hl : ai_look ai_kT (ai_ow m) ix = some ci) : Ex d m pc L (st) k w Q ↔ gO w m k ci ∧ Ex d m (pc + 3) L (.ref (mN w) :: st) (k.1 + 1, k.2 + ai_nf ci) (mnew w (1, ci)) Q := by
  unfold gO
  exact Ex_guard (c1 := (pc + 3, L, .ref (mN w) :: st, (k.1 + 1, k.2 + ai_nf ci), (mnew w (1, ci)))) (by rw [ai_step_I hd rfl rfl rfl]; simp only [ai_stepI, hl, ai_go]; split <;> rfl)
theorem Ex_checkcast  (hd : decode m.1.2.1 pc = .ok (.checkcast ix, 3)) (hl : ai_look ai_kT (ai_ow m) ix = some 100) : Ex d m pc L (.ref a :: st) k w Q ↔ (mS w a).1 = 2 ∧ Ex d m (pc + 3) L (.ref a :: st) k w Q := Ex_guard (c1 := (pc + 3, L, .ref a :: st, k, w)) (by rw [ai_step_I hd rfl rfl rfl]; simp only [ai_stepI, hl, ai_go]; split <;> rfl)
theorem Ex_ldcI  (hd : decode m.1.2.1 pc = .ok (.ldc ix, 2)) (hl : ai_look ai_iT (ai_ow m) ix = some v) : Ex d m pc L (st) k w Q ↔ Ex d m (pc + 2) L (.int v :: st) k w Q := Ex_step (c' := (pc + 2, L, .int v :: st, k, w)) (by rw [ai_step_I hd rfl rfl rfl]; simp only [ai_stepI, hl]; rfl)
theorem Ex_ldcS {i : Nat} (hd : decode m.1.2.1 pc = .ok (.ldc ix, 2)) (hl0 : ai_look ai_iT (ai_ow m) ix = none) (hl : ai_look ai_gT (ai_ow m) ix = some i) : Ex d m pc L (st) k w Q ↔ Ex d m (pc + 2) L (.ref (1000000 + i) :: st) k w Q := Ex_step (c' := (pc + 2, L, .ref (1000000 + i) :: st, k, w)) (by rw [ai_step_I hd rfl rfl rfl]; simp only [ai_stepI, hl0, hl]; rfl)
theorem Ex_ldc_w  (hd : decode m.1.2.1 pc = .ok (.ldc_w ix, 3)) (hl : ai_look ai_iT (ai_ow m) ix = some v) : Ex d m pc L (st) k w Q ↔ Ex d m (pc + 3) L (.int v :: st) k w Q := Ex_step (c' := (pc + 3, L, .int v :: st, k, w)) (by rw [ai_step_I hd rfl rfl rfl]; simp only [ai_stepI, hl]; rfl)
theorem Ex_ldc2_w  (hd : decode m.1.2.1 pc = .ok (.ldc2_w ix, 3)) (hl : ai_look ai_lT (ai_ow m) ix = some vl) : Ex d m pc L (st) k w Q ↔ Ex d m (pc + 3) L (.long vl :: st) k w Q := Ex_step (c' := (pc + 3, L, .long vl :: st, k, w)) (by rw [ai_step_I hd rfl rfl rfl]; simp only [ai_stepI, hl]; rfl)
theorem Ex_ireturn_int (hd : decode m.1.2.1 pc = .ok (.ireturn, 1)) (hr : m.1.2.2.2 = some .int) (hk : gR m k) : Ex d m pc L [.int x] k w Q ↔ Q (some (.int x)) w := Ex_ret (by rw [ai_step_R hd (by simp)]; unfold ai_ret gR at *; rw [if_pos hk]; simp [ai_ret0, hr])
theorem Ex_lreturn_long (hd : decode m.1.2.1 pc = .ok (.lreturn, 1)) (hr : m.1.2.2.2 = some .long) (hk : gR m k) : Ex d m pc L [.long xl] k w Q ↔ Q (some (.long xl)) w := Ex_ret (by rw [ai_step_R hd (by simp)]; unfold ai_ret gR at *; rw [if_pos hk]; simp [ai_ret0, hr])
theorem Ex_ireturn_boolean (hd : decode m.1.2.1 pc = .ok (.ireturn, 1)) (hr : m.1.2.2.2 = some .boolean) (hk : gR m k) (hn : vp_nar .boolean x = x) : Ex d m pc L [.int x] k w Q ↔ Q (some (.int x)) w := Ex_ret (by
  have hn2 : narrow .boolean (.int x) = .int x := congrArg Value.int hn
  rw [ai_step_R hd (by simp)]
  unfold ai_ret gR at *
  rw [if_pos hk]
  simp [ai_ret0, hr, hn2])
theorem Ex_ireturn_byte (hd : decode m.1.2.1 pc = .ok (.ireturn, 1)) (hr : m.1.2.2.2 = some .byte) (hk : gR m k) (hn : vp_nar .byte x = x) : Ex d m pc L [.int x] k w Q ↔ Q (some (.int x)) w := Ex_ret (by
  have hn2 : narrow .byte (.int x) = .int x := congrArg Value.int hn
  rw [ai_step_R hd (by simp)]
  unfold ai_ret gR at *
  rw [if_pos hk]
  simp [ai_ret0, hr, hn2])
theorem Ex_ireturn_char (hd : decode m.1.2.1 pc = .ok (.ireturn, 1)) (hr : m.1.2.2.2 = some .char) (hk : gR m k) (hn : vp_nar .char x = x) : Ex d m pc L [.int x] k w Q ↔ Q (some (.int x)) w := Ex_ret (by
  have hn2 : narrow .char (.int x) = .int x := congrArg Value.int hn
  rw [ai_step_R hd (by simp)]
  unfold ai_ret gR at *
  rw [if_pos hk]
  simp [ai_ret0, hr, hn2])
theorem Ex_areturn_o {C : String} (hd : decode m.1.2.1 pc = .ok (.areturn, 1)) (hr : m.1.2.2.2 = some (.object C)) (hk : gR m k) : Ex d m pc L [.ref a] k w Q ↔ Q (some (.ref a)) w := Ex_ret (by rw [ai_step_R hd (by simp)]; unfold ai_ret gR at *; rw [if_pos hk]; simp [ai_ret0, hr])
theorem Ex_areturn_a {t : FieldType} (hd : decode m.1.2.1 pc = .ok (.areturn, 1)) (hr : m.1.2.2.2 = some (.array t)) (hk : gR m k) : Ex d m pc L [.ref a] k w Q ↔ Q (some (.ref a)) w := Ex_ret (by rw [ai_step_R hd (by simp)]; unfold ai_ret gR at *; rw [if_pos hk]; simp [ai_ret0, hr])
theorem Ex_return (hd : decode m.1.2.1 pc = .ok (.return_, 1)) (hr : m.1.2.2.2 = none) (hk : gR m k) : Ex d m pc L [] k w Q ↔ Q none w := Ex_ret (by rw [ai_step_R hd (by simp)]; unfold ai_ret gR at *; rw [if_pos hk]; simp [ai_ret0, hr])
variable {m' : ai_M} {n : Nat} {As rest : List Value} {k' : Nat × Nat}
theorem Ex_inv0 (hd : decode m.1.2.1 pc = .ok (.invokevirtual ix, 3)) (hl : ai_look ai_cT (ai_ow m) ix = some ((kind, ci, n), m')) (hkd : kind = 0 ∨ kind = 10) (hst : st.take n = As.reverse) (hdr : st.drop n = .ref a :: rest) (hn : n ≤ st.length) (hc8 : ai_cats rest ≤ 8) (hml : (ai_args (.ref a :: As)).length ≤ m'.1.2.2.1) (hg : gC' m m' k) (hk' : (k.1 + ai_mc m', k.2 + ai_mz m') = k') :
    Ex (d + 1) m pc L st k w Q ↔ mS w a = (1, ci) ∧ Cl d m' (.ref a :: As) w (fun r w' => Ex (d + 1) m (pc + 3) L (r.toList ++ rest) k' w' Q) := by
  subst hk'
  refine Ex_gcall (by
    rw [ai_step_V (op := 0) (by decide) hd]
    unfold ai_call gC' at *
    simp only [hl, hst, hdr, List.reverse_reverse]
    rw [if_pos ⟨hn, by rcases hkd with rfl | rfl <;> rfl, hg.1, hg.2⟩, if_neg (by rcases hkd with rfl | rfl <;> decide)]
    by_cases h : mS w a = (1, ci)
    · rw [if_pos ⟨hc8, hml, fun _ => h, fun z => by rcases hkd with rfl | rfl <;> cases z⟩, if_pos h]
    · rw [if_neg (fun z => h (z.2.2.1 (by rcases hkd with rfl | rfl <;> rfl))), if_neg h])
theorem Ex_inv3 (hd : decode m.1.2.1 pc = .ok (.invokevirtual ix, 3)) (hl : ai_look ai_cT (ai_ow m) ix = some ((3, ci, n), m')) (hst : st.take n = As.reverse) (hdr : st.drop n = .ref a :: rest) (hn : n ≤ st.length) (hc8 : ai_cats rest ≤ 8) (hml : (ai_args (.ref a :: As)).length ≤ m'.1.2.2.1) (hg : gC' m m' k) (hk' : (k.1 + ai_mc m', k.2 + ai_mz m') = k') :
    Ex (d + 1) m pc L st k w Q ↔ ai_isK a = true ∧ Cl d m' (.ref a :: As) w (fun r w' => Ex (d + 1) m (pc + 3) L (r.toList ++ rest) k' w' Q) := by
  subst hk'
  refine Ex_gcall (by
    rw [ai_step_V (op := 0) (by decide) hd]
    unfold ai_call gC' at *
    simp only [hl, hst, hdr, List.reverse_reverse]
    rw [if_pos ⟨hn, trivial, hg.1, hg.2⟩, if_neg (by decide)]
    by_cases h : ai_isK a = true
    · rw [if_pos ⟨hc8, hml, (fun z => absurd z (by decide)), fun _ => h⟩, if_pos h]
    · rw [if_neg (fun z => h (z.2.2.2 trivial)), if_neg h])
theorem Ex_inv1 (hd : decode m.1.2.1 pc = .ok (.invokestatic ix, 3)) (hl : ai_look ai_cT (ai_ow m) ix = some ((kind, ci, n), m')) (hkd : kind = 1 ∨ kind = 11) (hst : st.take n = As.reverse) (hdr : st.drop n = rest) (hn : n ≤ st.length) (hc8 : ai_cats rest ≤ 8) (hml : (ai_args As).length ≤ m'.1.2.2.1) (hg : gC' m m' k) (hk' : (k.1 + ai_mc m', k.2 + ai_mz m') = k') :
    Ex (d + 1) m pc L st k w Q ↔ Cl d m' As w (fun r w' => Ex (d + 1) m (pc + 3) L (r.toList ++ rest) k' w' Q) := by
  subst hk'
  refine Ex_call (by
    rw [ai_step_V (op := 1) (by decide) hd]
    unfold ai_call gC' at *
    simp only [hl, hst, hdr, List.reverse_reverse]
    rw [if_pos ⟨hn, by rcases hkd with rfl | rfl <;> rfl, hg.1, hg.2⟩, if_pos (by rcases hkd with rfl | rfl <;> rfl), if_pos ⟨hc8, hml⟩])
theorem Ex_inv2 (hd : decode m.1.2.1 pc = .ok (.invokespecial ix, 3)) (hl : ai_look ai_cT (ai_ow m) ix = some ((kind, ci, n), m')) (hkd : kind = 2 ∨ kind = 12) (hst : st.take n = As.reverse) (hdr : st.drop n = .ref a :: rest) (hn : n ≤ st.length) (hc8 : ai_cats rest ≤ 8) (hml : (ai_args (.ref a :: As)).length ≤ m'.1.2.2.1) (hg : gC' m m' k) (hk' : (k.1 + ai_mc m', k.2 + ai_mz m') = k') :
    Ex (d + 1) m pc L st k w Q ↔ Cl d m' (.ref a :: As) w (fun r w' => Ex (d + 1) m (pc + 3) L (r.toList ++ rest) k' w' Q) := by
  subst hk'
  refine Ex_call (by
    rw [ai_step_V (op := 2) (by decide) hd]
    unfold ai_call gC' at *
    simp only [hl, hst, hdr, List.reverse_reverse]
    rw [if_pos ⟨hn, by rcases hkd with rfl | rfl <;> rfl, hg.1, hg.2⟩, if_neg (by rcases hkd with rfl | rfl <;> decide), if_pos ⟨hc8, hml, (fun z => by rcases hkd with rfl | rfl <;> exact absurd z (by decide)), (fun z => by rcases hkd with rfl | rfl <;> exact absurd z (by decide))⟩])
theorem Ex_nat0 (hd : decode m.1.2.1 pc = .ok (.invokespecial ix, 3)) (hl : ai_look ai_cT (ai_ow m) ix = none) (hn : ai_look ai_nT (ai_ow m) ix = some 0) (hc8 : ai_cats st ≤ 8) : Ex d m pc L (.ref a :: st) k w Q ↔ Ex d m (pc + 3) L st k w Q := Ex_step (c' := (pc + 3, L, st, k, w)) (by
    rw [ai_step_V (op := 2) (by decide) hd]
    unfold ai_call
    simp only [hl, hn]
    rw [if_pos ⟨(fun _ => trivial), (fun z => absurd z (by decide)), (fun z => absurd z (by decide))⟩]
    simp [ai_nat, hc8, ai_go])
theorem Ex_nat1 {b : Nat} {n dp sp : Int32} (hd : decode m.1.2.1 pc = .ok (.invokestatic ix, 3)) (hl : ai_look ai_cT (ai_ow m) ix = none) (hn : ai_look ai_nT (ai_ow m) ix = some 1) (hc8 : ai_cats st ≤ 8) : Ex d m pc L (.int n :: .int dp :: .ref a :: .int sp :: .ref b :: st) k w Q ↔ ((mS w b).1 = 2 ∧ (mS w a).1 = 2 ∧ ¬ sp < 0 ∧ ¬ dp < 0 ∧ ¬ n < 0 ∧ sp.toNatClampNeg + n.toNatClampNeg ≤ (mS w b).2 ∧ dp.toNatClampNeg + n.toNatClampNeg ≤ (mS w a).2) ∧ Ex d m (pc + 3) L st k (msA w a (ai_cpy w b a sp.toNatClampNeg dp.toNatClampNeg n.toNatClampNeg)) Q := Ex_guard (c1 := (pc + 3, L, st, k, msA w a (ai_cpy w b a sp.toNatClampNeg dp.toNatClampNeg n.toNatClampNeg))) (by
    rw [ai_step_V (op := 1) (by decide) hd]
    unfold ai_call
    simp only [hl, hn]
    rw [if_pos ⟨(fun z => absurd z (by decide)), (fun _ => trivial), (fun z => absurd z (by decide))⟩]
    simp only [ai_nat, ai_go]
    by_cases h : (mS w b).1 = 2 ∧ (mS w a).1 = 2 ∧ ¬ sp < 0 ∧ ¬ dp < 0 ∧ ¬ n < 0 ∧ sp.toNatClampNeg + n.toNatClampNeg ≤ (mS w b).2 ∧ dp.toNatClampNeg + n.toNatClampNeg ≤ (mS w a).2
    · rw [if_pos h, if_pos ⟨h.1, h.2.1, h.2.2.1, h.2.2.2.1, h.2.2.2.2.1, h.2.2.2.2.2.1, h.2.2.2.2.2.2, hc8⟩]; rfl
    · rw [if_neg h, if_neg (fun z => h ⟨z.1, z.2.1, z.2.2.1, z.2.2.2.1, z.2.2.2.2.1, z.2.2.2.2.2.1, z.2.2.2.2.2.2.1⟩)]; rfl)
theorem Ex_nat2 (hd : decode m.1.2.1 pc = .ok (.invokevirtual ix, 3)) (hl : ai_look ai_cT (ai_ow m) ix = none) (hn : ai_look ai_nT (ai_ow m) ix = some 2) (hc8 : ai_cats st ≤ 8) : Ex d m pc L (.ref a :: st) k w Q ↔ ((mS w a).1 = 2 ∧ k.1 + 1 ≤ ai_mc m ∧ k.2 + (mS w a).2 ≤ ai_mz m ∧ mN w < 1000000 ∧ (mS w a).2 ≤ 100000) ∧ Ex d m (pc + 3) L (.ref (mN w) :: st) (k.1 + 1, k.2 + (mS w a).2) (msA (mnew w (2, (mS w a).2)) (mN w) (mI w a)) Q := Ex_guard (c1 := (pc + 3, L, .ref (mN w) :: st, (k.1 + 1, k.2 + (mS w a).2), msA (mnew w (2, (mS w a).2)) (mN w) (mI w a))) (by
    rw [ai_step_V (op := 0) (by decide) hd]
    unfold ai_call
    simp only [hl, hn]
    rw [if_pos ⟨(fun z => absurd z (by decide)), (fun z => absurd z (by decide)), (fun _ => trivial)⟩]
    simp only [ai_nat, ai_go]
    by_cases h : (mS w a).1 = 2 ∧ k.1 + 1 ≤ ai_mc m ∧ k.2 + (mS w a).2 ≤ ai_mz m ∧ mN w < 1000000 ∧ (mS w a).2 ≤ 100000
    · rw [if_pos h, if_pos ⟨h.1, h.2.1, h.2.2.1, h.2.2.2.1, hc8, h.2.2.2.2⟩]; rfl
    · rw [if_neg h, if_neg (fun z => h ⟨z.1, z.2.1, z.2.2.1, z.2.2.2.1, z.2.2.2.2.2⟩)]; rfl)
end EXI
