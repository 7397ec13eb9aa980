/-! the law's start: what is left is a run of the abstract machine -/
def ai_w0 (L : Nat) (xs : Nat → Int32) : ai_H := (fun i k => if i = 1000300 then xs k else 0, fun i k => if i = 1000300 ∧ k = 0 then some L else none, fun _ => (0, 0), 0)
def ai_LawRuns : Prop := ∀ (L : Nat) (xs : Nat → Int32), L ≤ 3584 → ∃ (n : Nat) (w' : ai_H), ai_ex n 300 mL_law (0, ai_entry [.ref 1000300] 4, [], (0, 0), ai_w0 L xs) = some (some (.int 1), w')
def ai_site (i : Nat) : String × Nat := ((ai_gT.find? (fun e => e.2 == i)).map (fun e => (ai_on e.1.1, e.1.2))).getD ("", 0)
def ai_tm (i : Nat) : Term := .string (ai_site i).1 (ai_site i).2
def ai_flat : List Cond := flatC (Jvm.Cond.and given_1 narrow_1)
def ai_fv (i : Nat) : Term := .field (ai_tm i) "java/lang/String" "value" "[B"
theorem ai_fl1 : ((List.range 13).all fun i => decide (Cond.exactly (ai_tm i) "java/lang/String" ∈ ai_flat) && decide (Cond.eq (.field (ai_tm i) "java/lang/String" "coder" "B") (.int 0) ∈ ai_flat) && decide (Cond.arrayOf (ai_fv i) .byte ∈ ai_flat) && decide (Cond.eq (.length (ai_fv i)) (.int (Int32.ofNat (ai_len.getD i 0))) ∈ ai_flat) && decide (ai_len.getD i 0 < 2 ^ 31)) = true := by decide +kernel
theorem ai_fl2 : ((List.range 13).all fun i => (List.range (ai_len.getD i 0)).all fun j => decide (Cond.eq (.elem (ai_fv i) (.int (Int32.ofNat j))) (.int ((ai_byt.getD i []).getD j 0)) ∈ ai_flat)) = true := by decide +kernel
def ai_prs : List (Nat × Nat) := [(0, 1), (0, 2), (0, 3), (0, 4), (0, 5), (0, 6), (0, 7), (0, 8), (0, 9), (0, 10), (0, 11), (0, 12), (1, 2), (1, 3), (1, 4), (1, 5), (1, 6), (1, 7), (1, 8), (1, 9), (1, 10), (1, 11), (1, 12), (2, 3), (2, 4), (2, 5), (2, 6), (2, 7), (2, 8), (2, 9), (2, 10), (2, 11), (2, 12), (3, 4), (3, 5), (3, 6), (3, 7), (3, 8), (3, 9), (3, 10), (3, 11), (3, 12), (4, 5), (4, 6), (4, 7), (4, 8), (4, 9), (4, 10), (4, 11), (4, 12), (5, 6), (5, 7), (5, 8), (5, 9), (5, 10), (5, 11), (5, 12), (6, 7), (6, 8), (6, 9), (6, 10), (6, 11), (6, 12), (7, 8), (7, 9), (7, 10), (7, 11), (7, 12), (8, 9), (8, 10), (8, 11), (8, 12), (9, 10), (9, 11), (9, 12), (10, 11), (10, 12), (11, 12)]
set_option maxRecDepth 100000 in
theorem ai_fl3a : (ai_prs.map fun q => some (Cond.not (Cond.eq (ai_tm q.1) (ai_tm q.2)))) = [100, 109, 120, 131, 142, 155, 167, 181, 196, 215, 234, 254, 110, 121, 132, 143, 156, 168, 182, 197, 216, 235, 255, 122, 133, 144, 157, 169, 183, 198, 217, 236, 256, 134, 145, 158, 170, 184, 199, 218, 237, 257, 146, 159, 171, 185, 200, 219, 238, 258, 160, 172, 186, 201, 220, 239, 259, 173, 187, 202, 221, 240, 260, 188, 203, 222, 241, 261, 204, 223, 242, 262, 224, 243, 263, 244, 264, 265].map (fun i => ai_flat[i]?) := rfl
theorem ai_fl3b : ((List.range 13).all fun i => (List.range 13).all fun j => i == j || decide ((i, j) ∈ ai_prs) || decide ((j, i) ∈ ai_prs)) = true := by decide +kernel
theorem ai_fl3 {q : Nat × Nat} (h : q ∈ ai_prs) : Cond.not (Cond.eq (ai_tm q.1) (ai_tm q.2)) ∈ ai_flat := by
  have h1 : some (Cond.not (Cond.eq (ai_tm q.1) (ai_tm q.2))) ∈ ai_prs.map fun q => some (Cond.not (Cond.eq (ai_tm q.1) (ai_tm q.2))) := List.mem_map.mpr ⟨q, h, rfl⟩
  rw [ai_fl3a] at h1
  obtain ⟨i, -, hi⟩ := List.mem_map.mp h1
  exact List.mem_of_getElem? hi
theorem ai_fl4 : Cond.eq (.static "java/lang/String" "COMPACT_STRINGS" "Z") (.int 1) ∈ ai_flat ∧ Cond.isRef (.static "jdk/internal/util/Preconditions" "SIOOBE_FORMATTER" "Ljava/util/function/BiFunction;") ∈ ai_flat := by decide +kernel
theorem ai_fl5 : (ai_gT.all fun e => decide (Cond.stringRef (ai_on e.1.1) e.1.2 (ai_txt.getD e.2 "") ∈ lw_tbl) && decide (ai_site e.2 = (ai_on e.1.1, e.1.2))) = true := by decide +kernel
theorem ai_fl6 : Cond.laysStatic "java/lang/String" "COMPACT_STRINGS" "Z" ∈ lw_tbl ∧ Cond.laysStatic "jdk/internal/util/Preconditions" "SIOOBE_FORMATTER" "Ljava/util/function/BiFunction;" ∈ lw_tbl ∧ Cond.initialized "java/lang/String" ∈ lw_tbl ∧ Cond.initialized "jdk/internal/util/Preconditions" ∈ lw_tbl := by decide +kernel
