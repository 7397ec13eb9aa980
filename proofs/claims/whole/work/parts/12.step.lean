/-! one instruction of the abstract machine -/
def ai_ow (m : ai_M) : Nat := m.2.1
def ai_mc (m : ai_M) : Nat := m.2.2.1
def ai_mz (m : ai_M) : Nat := m.2.2.2
def ai_nf (ci : Nat) : Nat := ((vwCl[ci]?).map (fun q => q.2.2)).getD 0
def ai_ty (ci k : Nat) : FieldType := (ai_tyL.getD ci (fun _ => .int)) k
def ai_isP (ci k : Nat) : Bool := match ai_ty ci k with
  | .int => false
  | .boolean => false
  | _ => true
/-- is the index within an array of n -/
def ai_ib (i : Int32) (n : Nat) : Bool := !(decide (i < 0) || decide (n ≤ i.toNatClampNeg))
theorem ai_ib_iff {i : Int32} {n : Nat} : ai_ib i n = true ↔ vp_in i n := by
  unfold ai_ib vp_in
  simp
def ai_isK (a : Nat) : Bool := decide (1000000 ≤ a) && decide (a < 1000013)
def ai_isV (a : Nat) : Bool := decide (1000100 ≤ a) && decide (a < 1000113)
def ai_isX (a : Nat) : Bool := decide (a = 1000300)
theorem ai_isK_iff {a : Nat} : ai_isK a = true ↔ 1000000 ≤ a ∧ a < 1000013 := by
  unfold ai_isK
  simp
theorem ai_isV_iff {a : Nat} : ai_isV a = true ↔ 1000100 ≤ a ∧ a < 1000113 := by
  unfold ai_isV
  simp
theorem ai_isX_iff {a : Nat} : ai_isX a = true ↔ a = 1000300 := by
  unfold ai_isX
  simp
def ai_sl (w : ai_H) : Nat := (mP w 1000300 0).getD 0
def ai_cats (st : List Value) : Nat := (st.map fun v => v.category).sum
def ai_refv : Value → Option (Option Nat)
  | .null => some none
  | .ref a => some (some a)
  | _ => none
def ai_ld (L : List (Option Value)) (i : Nat) : Option Value := (L[i]?).getD none
def ai_cpy (w : ai_H) (i j : Nat) (sp dp n : Nat) : Nat → Int32 := va_cpy (mI w i) (mI w j) sp dp n
def ai_stepI (m : ai_M) (i : Instr) (pc : Nat) (L : List (Option Value)) (st : List Value) (k : Nat × Nat) (w : ai_H) : Option ai_C :=
  match i with
  | .iconst n => ai_go (pc + 1) L (.int (Int32.ofInt n) :: st) k w
  | .bipush n => ai_go (pc + 2) L (.int (Int8.ofInt n).toInt32 :: st) k w
  | .sipush n => ai_go (pc + 3) L (.int (Int16.ofInt n).toInt32 :: st) k w
  | .lconst n => ai_go (pc + 1) L (.long (Int64.ofNat (n : Nat)) :: st) k w
  | .iload_n n => match ai_ld L (n : Nat) with
    | some (.int x) => ai_go (pc + 1) L (.int x :: st) k w
    | _ => none
  | .iload n => match ai_ld L n with
    | some (.int x) => ai_go (pc + 2) L (.int x :: st) k w
    | _ => none
  | .lload_n n => match ai_ld L (n : Nat) with
    | some (.long x) => ai_go (pc + 1) L (.long x :: st) k w
    | _ => none
  | .lload n => match ai_ld L n with
    | some (.long x) => ai_go (pc + 2) L (.long x :: st) k w
    | _ => none
  | .aload_n n => match ai_ld L (n : Nat) with
    | some (.ref x) => ai_go (pc + 1) L (.ref x :: st) k w
    | _ => none
  | .aload n => match ai_ld L n with
    | some (.ref x) => ai_go (pc + 2) L (.ref x :: st) k w
    | _ => none
  | .istore_n n => match st with
    | .int x :: st => if (n : Nat) < m.1.2.2.1 then ai_go (pc + 1) (ai_st1 L (n : Nat) (.int x)) st k w else none
    | _ => none
  | .istore n => match st with
    | .int x :: st => if n < m.1.2.2.1 then ai_go (pc + 2) (ai_st1 L n (.int x)) st k w else none
    | _ => none
  | .lstore_n n => match st with
    | .long x :: st => if (n : Nat) + 1 < m.1.2.2.1 then ai_go (pc + 1) (ai_st2 L (n : Nat) (.long x)) st k w else none
    | _ => none
  | .lstore n => match st with
    | .long x :: st => if n + 1 < m.1.2.2.1 then ai_go (pc + 2) (ai_st2 L n (.long x)) st k w else none
    | _ => none
  | .astore_n n => match st with
    | .ref x :: st => if (n : Nat) < m.1.2.2.1 then ai_go (pc + 1) (ai_st1 L (n : Nat) (.ref x)) st k w else none
    | _ => none
  | .astore n => match st with
    | .ref x :: st => if n < m.1.2.2.1 then ai_go (pc + 2) (ai_st1 L n (.ref x)) st k w else none
    | _ => none
  | .iinc n d => match ai_ld L n with
    | some (.int x) => if n < m.1.2.2.1 then ai_go (pc + 3) (ai_st1 L n (.int (x + Int32.ofInt d))) st k w else none
    | _ => none
  | .iadd => match st with
    | .int y :: .int x :: st => ai_go (pc + 1) L (.int (x + y) :: st) k w
    | _ => none
  | .isub => match st with
    | .int y :: .int x :: st => ai_go (pc + 1) L (.int (x - y) :: st) k w
    | _ => none
  | .imul => match st with
    | .int y :: .int x :: st => ai_go (pc + 1) L (.int (x * y) :: st) k w
    | _ => none
  | .iand => match st with
    | .int y :: .int x :: st => ai_go (pc + 1) L (.int (x &&& y) :: st) k w
    | _ => none
  | .ior => match st with
    | .int y :: .int x :: st => ai_go (pc + 1) L (.int (x ||| y) :: st) k w
    | _ => none
  | .ixor => match st with
    | .int y :: .int x :: st => ai_go (pc + 1) L (.int (x ^^^ y) :: st) k w
    | _ => none
  | .idiv => match st with
    | .int y :: .int x :: st => if y = 0 then none else ai_go (pc + 1) L (.int (x / y) :: st) k w
    | _ => none
  | .irem => match st with
    | .int y :: .int x :: st => if y = 0 then none else ai_go (pc + 1) L (.int (ai_rem x y) :: st) k w
    | _ => none
  | .ineg => match st with
    | .int x :: st => ai_go (pc + 1) L (.int (-x) :: st) k w
    | _ => none
  | .ishl => match st with
    | .int y :: .int x :: st => ai_go (pc + 1) L (.int (ai_shl x y) :: st) k w
    | _ => none
  | .ishr => match st with
    | .int y :: .int x :: st => ai_go (pc + 1) L (.int (ai_shr x y) :: st) k w
    | _ => none
  | .iushr => match st with
    | .int y :: .int x :: st => ai_go (pc + 1) L (.int (ai_ushr x y) :: st) k w
    | _ => none
  | .ladd => match st with
    | .long y :: .long x :: st => ai_go (pc + 1) L (.long (x + y) :: st) k w
    | _ => none
  | .lsub => match st with
    | .long y :: .long x :: st => ai_go (pc + 1) L (.long (x - y) :: st) k w
    | _ => none
  | .lmul => match st with
    | .long y :: .long x :: st => ai_go (pc + 1) L (.long (x * y) :: st) k w
    | _ => none
  | .ldiv => match st with
    | .long y :: .long x :: st => if y = 0 then none else ai_go (pc + 1) L (.long (x / y) :: st) k w
    | _ => none
  | .lrem => match st with
    | .long y :: .long x :: st => if y = 0 then none else ai_go (pc + 1) L (.long (ai_reml x y) :: st) k w
    | _ => none
  | .lneg => match st with
    | .long x :: st => ai_go (pc + 1) L (.long (-x) :: st) k w
    | _ => none
  | .lcmp => match st with
    | .long y :: .long x :: st => ai_go (pc + 1) L (.int (lg_cmp x y) :: st) k w
    | _ => none
  | .i2l => match st with
    | .int x :: st => ai_go (pc + 1) L (.long x.toInt64 :: st) k w
    | _ => none
  | .l2i => match st with
    | .long x :: st => ai_go (pc + 1) L (.int x.toInt32 :: st) k w
    | _ => none
  | .i2b => match st with
    | .int x :: st => ai_go (pc + 1) L (.int (ai_i2b x) :: st) k w
    | _ => none
  | .i2s => match st with
    | .int x :: st => ai_go (pc + 1) L (.int (ai_i2s x) :: st) k w
    | _ => none
  | .i2c => match st with
    | .int x :: st => ai_go (pc + 1) L (.int (ai_i2c x) :: st) k w
    | _ => none
  | .dup => match st with
    | v :: st => if v.category = 1 then ai_go (pc + 1) L (v :: v :: st) k w else none
    | _ => none
  | .pop => match st with
    | v :: st => if v.category = 1 then ai_go (pc + 1) L st k w else none
    | _ => none
  | .dup_x1 => match st with
    | v :: u :: st => if v.category = 1 ∧ u.category = 1 then ai_go (pc + 1) L (v :: u :: v :: st) k w else none
    | _ => none
  | .ifCond c off => match st with
    | .int x :: st => ai_br (ai_cond c x 0) pc off L st k w
    | _ => none
  | .if_icmp c off => match st with
    | .int y :: .int x :: st => ai_br (ai_cond c x y) pc off L st k w
    | _ => none
  | .ifnull off => match st with
    | .ref _ :: st => ai_go (pc + 3) L st k w
    | .null :: st => if 0 ≤ (pc : Int) + off then ai_go (ai_tg pc off) L st k w else none
    | _ => none
  | .goto off => if 0 ≤ (pc : Int) + off then ai_go (ai_tg pc off) L st k w else none
  | .tableswitch dflt lo hi offs => match st with
    | .int x :: st =>
      if x.toInt < lo ∨ hi < x.toInt then (if 0 ≤ (pc : Int) + dflt then ai_go (ai_tg pc dflt) L st k w else none)
      else match offs[(x.toInt - lo).toNat]? with
        | some off => if 0 ≤ (pc : Int) + off then ai_go (ai_tg pc off) L st k w else none
        | none => none
    | _ => none
  | .getfield ix => match ai_look ai_fT (ai_ow m) ix with
    | some ((ci, f, kind), _) => match st with
      | .ref a :: st =>
        if kind < 5 then
          if mS w a = (1, ci) ∧ f < ai_nf ci then (if ai_isP ci f then ai_go (pc + 3) L (ai_rf (mP w a f) :: st) k w else ai_go (pc + 3) L (.int (mI w a f) :: st) k w) else none
        else if ai_isK a = true then (if kind = 5 then ai_go (pc + 3) L (.int 0 :: st) k w else if kind = 6 then ai_go (pc + 3) L (.ref (a + 100) :: st) k w else none) else none
      | _ => none
    | none => none
  | .putfield ix => match ai_look ai_fT (ai_ow m) ix with
    | some ((ci, f, kind), (fin, nst)) => match st with
      | v :: .ref a :: st =>
        if kind < 5 ∧ mS w a = (1, ci) ∧ f < ai_nf ci ∧ (fin = 0 ∨ (m.1.1.name = "<init>" ∧ nst = 0)) then
          match v with
          | .int x => if ai_isP ci f = false ∧ narrow (ai_ty ci f) (.int x) = .int x ∧ fits (ai_ty ci f) (.int x) = true then ai_go (pc + 3) L st k (msI w a f x) else none
          | .null => if ai_isP ci f then ai_go (pc + 3) L st k (msP w a f none) else none
          | .ref r => if ai_isP ci f then ai_go (pc + 3) L st k (msP w a f (some r)) else none
          | _ => none
        else none
      | _ => none
    | none => none
  | .getstatic ix => match ai_look ai_sT (ai_ow m) ix with
    | some 0 => ai_go (pc + 3) L (.int 1 :: st) k w
    | some 1 => ai_go (pc + 3) L (.float 0 :: st) k w
    | _ => none
  | .iaload => match st with
    | .int j :: .ref a :: st =>
      if ((mS w a).1 = 2 ∧ ai_ib j (mS w a).2 = true) ∨ (ai_isX a = true ∧ ai_ib j (ai_sl w) = true) then ai_go (pc + 1) L (.int (mI w a j.toNatClampNeg) :: st) k w else none
    | _ => none
  | .baload => match st with
    | .int j :: .ref a :: st =>
      if (mS w a).1 = 3 ∧ ai_ib j (mS w a).2 = true then ai_go (pc + 1) L (.int (mI w a j.toNatClampNeg) :: st) k w
      else if ai_isV a = true ∧ ai_ib j (ai_len.getD (a - 1000100) 0) = true then ai_go (pc + 1) L (.int ((ai_byt.getD (a - 1000100) []).getD j.toNatClampNeg 0) :: st) k w else none
    | _ => none
  | .aaload => match st with
    | .int j :: .ref a :: st => if ((mS w a).1 = 4 ∨ (mS w a).1 = 5) ∧ ai_ib j (mS w a).2 = true then ai_go (pc + 1) L (ai_rf (mP w a j.toNatClampNeg) :: st) k w else none
    | _ => none
  | .iastore => match st with
    | .int x :: .int j :: .ref a :: st => if (mS w a).1 = 2 ∧ ai_ib j (mS w a).2 = true then ai_go (pc + 1) L st k (msI w a j.toNatClampNeg x) else none
    | _ => none
  | .bastore => match st with
    | .int x :: .int j :: .ref a :: st => if (mS w a).1 = 3 ∧ ai_ib j (mS w a).2 = true then ai_go (pc + 1) L st k (msI w a j.toNatClampNeg (vp_nar .boolean x)) else none
    | _ => none
  | .aastore => match st with
    | .ref r :: .int j :: .ref a :: st =>
      if (((mS w a).1 = 4 ∧ mS w r = (1, 5)) ∨ ((mS w a).1 = 5 ∧ mS w r = (1, 4))) ∧ ai_ib j (mS w a).2 = true then ai_go (pc + 1) L st k (msP w a j.toNatClampNeg (some r)) else none
    | _ => none
  | .arraylength => match st with
    | .ref a :: st =>
      if 2 ≤ (mS w a).1 ∧ (mS w a).1 ≤ 5 then ai_go (pc + 1) L (.int (Int32.ofNat (mS w a).2) :: st) k w
      else if ai_isV a = true then ai_go (pc + 1) L (.int (Int32.ofNat (ai_len.getD (a - 1000100) 0)) :: st) k w
      else if ai_isX a = true then ai_go (pc + 1) L (.int (Int32.ofNat (ai_sl w)) :: st) k w else none
    | _ => none
  | .newarray t => match st with
    | .int n :: st =>
      if ¬ n < 0 ∧ n.toNatClampNeg ≤ 100000 ∧ k.1 + 1 ≤ ai_mc m ∧ k.2 + n.toNatClampNeg ≤ ai_mz m ∧ mN w < 1000000 then
        match t with
        | .int => ai_go (pc + 2) L (.ref (mN w) :: st) (k.1 + 1, k.2 + n.toNatClampNeg) (mnew w (2, n.toNatClampNeg))
        | .boolean => ai_go (pc + 2) L (.ref (mN w) :: st) (k.1 + 1, k.2 + n.toNatClampNeg) (mnew w (3, n.toNatClampNeg))
        | _ => none
      else none
    | _ => none
  | .anewarray ix => match ai_look ai_kT (ai_ow m) ix with
    | some ci => match st with
      | .int n :: st =>
        if ¬ n < 0 ∧ n.toNatClampNeg ≤ 100000 ∧ k.1 + 1 ≤ ai_mc m ∧ k.2 + n.toNatClampNeg ≤ ai_mz m ∧ mN w < 1000000 then
          if ci = 5 then ai_go (pc + 3) L (.ref (mN w) :: st) (k.1 + 1, k.2 + n.toNatClampNeg) (mnew w (4, n.toNatClampNeg))
          else if ci = 4 then ai_go (pc + 3) L (.ref (mN w) :: st) (k.1 + 1, k.2 + n.toNatClampNeg) (mnew w (5, n.toNatClampNeg))
          else none
        else none
      | _ => none
    | none => none
  | .new ix => match ai_look ai_kT (ai_ow m) ix with
    | some ci => if ci < 8 ∧ k.1 + 1 ≤ ai_mc m ∧ k.2 + ai_nf ci ≤ ai_mz m ∧ mN w < 1000000 then ai_go (pc + 3) L (.ref (mN w) :: st) (k.1 + 1, k.2 + ai_nf ci) (mnew w (1, ci)) else none
    | none => none
  | .checkcast ix => match ai_look ai_kT (ai_ow m) ix with
    | some 100 => match st with
      | .ref a :: st => if (mS w a).1 = 2 then ai_go (pc + 3) L (.ref a :: st) k w else none
      | _ => none
    | _ => none
  | .ldc ix => match ai_look ai_iT (ai_ow m) ix with
    | some v => ai_go (pc + 2) L (.int v :: st) k w
    | none => match ai_look ai_gT (ai_ow m) ix with
      | some i => ai_go (pc + 2) L (.ref (1000000 + i) :: st) k w
      | none => none
  | .ldc_w ix => match ai_look ai_iT (ai_ow m) ix with
    | some v => ai_go (pc + 3) L (.int v :: st) k w
    | none => none
  | .ldc2_w ix => match ai_look ai_lT (ai_ow m) ix with
    | some v => ai_go (pc + 3) L (.long v :: st) k w
    | none => none
  | _ => none
/-- the natives, each at one kind of call -/
def ai_nat (v : Nat) (pc : Nat) (L : List (Option Value)) (st : List Value) (k : Nat × Nat) (w : ai_H) (m : ai_M) : Option ai_C :=
  match v, st with
  | 0, .ref _ :: st => if ai_cats st ≤ 8 then ai_go (pc + 3) L st k w else none
  | 1, .int n :: .int dp :: .ref a :: .int sp :: .ref b :: st =>
    if (mS w b).1 = 2 ∧ (mS w a).1 = 2 ∧ ¬ sp < 0 ∧ ¬ dp < 0 ∧ ¬ n < 0 ∧ sp.toNatClampNeg + n.toNatClampNeg ≤ (mS w b).2 ∧ dp.toNatClampNeg + n.toNatClampNeg ≤ (mS w a).2 ∧ ai_cats st ≤ 8 then
      ai_go (pc + 3) L st k (msA w a (ai_cpy w b a sp.toNatClampNeg dp.toNatClampNeg n.toNatClampNeg))
    else none
  | 2, .ref a :: st =>
    if (mS w a).1 = 2 ∧ k.1 + 1 ≤ ai_mc m ∧ k.2 + (mS w a).2 ≤ ai_mz m ∧ mN w < 1000000 ∧ ai_cats st ≤ 8 ∧ (mS w a).2 ≤ 100000 then
      ai_go (pc + 3) L (.ref (mN w) :: st) (k.1 + 1, k.2 + (mS w a).2) (msA (mnew w (2, (mS w a).2)) (mN w) (mI w a))
    else none
  | _, _ => none
def ai_call (op : Nat) (m : ai_M) (ix pc : Nat) (L : List (Option Value)) (st : List Value) (k : Nat × Nat) (w : ai_H) : Option ai_R :=
  match ai_look ai_cT (ai_ow m) ix with
  | some ((kind, ci, n), m') =>
    let As := (st.take n).reverse
    if n ≤ st.length ∧ kind % 10 % 3 = op ∧ k.1 + ai_mc m' ≤ ai_mc m ∧ k.2 + ai_mz m' ≤ ai_mz m then
      if kind % 10 = 1 then
        (if ai_cats (st.drop n) ≤ 8 ∧ (ai_args As).length ≤ m'.1.2.2.1 then some (.inr (.inr (m', As, st.drop n))) else none)
      else match st.drop n with
        | .ref a :: rest =>
          if ai_cats rest ≤ 8 ∧ (ai_args (.ref a :: As)).length ≤ m'.1.2.2.1 ∧ (kind % 10 = 0 → mS w a = (1, ci)) ∧ (kind = 3 → ai_isK a = true) then some (.inr (.inr (m', .ref a :: As, rest))) else none
        | _ => none
    else none
  | none => match ai_look ai_nT (ai_ow m) ix with
    | some v => if (v = 0 → op = 2) ∧ (v = 1 → op = 1) ∧ (v = 2 → op = 0) then (ai_nat v pc L st k w m).map Sum.inl else none
    | none => none
def ai_ret0 (m : ai_M) (i : Instr) (st : List Value) : Option (Option Value) :=
  match i, st with
  | .ireturn, [.int x] => match m.1.2.2.2 with
    | some .int => some (some (.int x))
    | some .boolean => if narrow .boolean (.int x) = .int x then some (some (.int x)) else none
    | some .byte => if narrow .byte (.int x) = .int x then some (some (.int x)) else none
    | some .char => if narrow .char (.int x) = .int x then some (some (.int x)) else none
    | _ => none
  | .lreturn, [.long x] => if m.1.2.2.2 = some .long then some (some (.long x)) else none
  | .areturn, [.ref a] => match m.1.2.2.2 with
    | some (.object _) => some (some (.ref a))
    | some (.array _) => some (some (.ref a))
    | _ => none
  | .return_, [] => if m.1.2.2.2 = none then some none else none
  | _, _ => none
def ai_ret (m : ai_M) (i : Instr) (st : List Value) (k : Nat × Nat) : Option ai_R :=
  if k.1 ≤ ai_mc m ∧ k.2 ≤ ai_mz m then (ai_ret0 m i st).map (fun r => .inr (.inl r)) else none
def ai_ln (i : Instr) (len : Nat) : Bool := match i with
  | .tableswitch _ _ _ _ => true
  | .bipush _ | .iload _ | .lload _ | .aload _ | .istore _ | .lstore _ | .astore _ | .newarray _ | .ldc _ => len == 2
  | .sipush _ | .iinc _ _ | .ifCond _ _ | .if_icmp _ _ | .ifnull _ | .goto _ | .getfield _ | .putfield _ | .getstatic _ | .anewarray _ | .new _ | .checkcast _ | .ldc_w _ | .ldc2_w _ => len == 3
  | _ => len == 1
def ai_step (m : ai_M) (c : ai_C) : Option ai_R :=
  match decode m.1.2.1 c.1 with
  | .ok (i, len) =>
    match i with
    | .invokevirtual ix => if len = 3 then ai_call 0 m ix c.1 c.2.1 c.2.2.1 c.2.2.2.1 c.2.2.2.2 else none
    | .invokestatic ix => if len = 3 then ai_call 1 m ix c.1 c.2.1 c.2.2.1 c.2.2.2.1 c.2.2.2.2 else none
    | .invokespecial ix => if len = 3 then ai_call 2 m ix c.1 c.2.1 c.2.2.1 c.2.2.2.1 c.2.2.2.2 else none
    | .ireturn | .lreturn | .areturn | .return_ => if len = 1 then ai_ret m i c.2.2.1 c.2.2.2.1 else none
    | _ => if ai_ln i len = true then (ai_stepI m i c.1 c.2.1 c.2.2.1 c.2.2.2.1 c.2.2.2.2).map Sum.inl else none
  | .error _ => none
def ai_ex : Nat → Nat → ai_M → ai_C → Option (Option Value × ai_H)
  | 0, _, _, _ => none
  | n + 1, d, m, c => match ai_step m c with
    | none => none
    | some (.inl c') => ai_ex n d m c'
    | some (.inr (.inl r)) => some (r, c.2.2.2.2)
    | some (.inr (.inr (m', as, rest))) => match d with
      | 0 => none
      | d' + 1 => match ai_ex n d' m' (0, ai_entry as m'.1.2.2.1, [], (0, 0), c.2.2.2.2) with
        | none => none
        | some (r, w') => ai_ex n (d' + 1) m (c.1 + 3, c.2.1, r.toList ++ rest, (c.2.2.2.1.1 + ai_mc m', c.2.2.2.1.2 + ai_mz m'), w')
