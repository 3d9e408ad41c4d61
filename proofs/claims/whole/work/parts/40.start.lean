/-! the law's entry, as the small machine has it -/
def qz_tk : List Int32 := [0, 0, 0, 1, 2, 2, 2, 2, 2, 2, 0, 1, 1, 2, 1, 0, 1]
def qz_lk : List Int32 := [0, 1, 1, 0, 1, 1, 1, 1, 1, 1, 0, 0, 2, 2, 0, 1, 0]
def qz_ro (L : Nat) (xs : Nat → Int32) : Nat → Nat × (Nat → Int32) := fun k => bif Nat.beq k 62 then (L, xs) else bif Nat.beq k 63 then (17, fun j => qz_tk.getD j 0) else (17, fun j => qz_lk.getD j 0)
def qz_h0 : qm_H := (fun k => bif Nat.ble 62 k && Nat.ble k 66 then 1 else 0, qp_c (fun _ _ _ => 0) 0)
/-- a table of ints that the entry gives -/
theorem qz_arr {args : Array Value} {s : State} {tm : Term} {N : Nat} {f : Nat → Int32} (hN : N < 2 ^ 31) (harr : (Cond.arrayOf tm .int).before args s = true) (hlen : (Term.length tm).eval args s none [] s = some (.int (Int32.ofNat N))) (hel : ∀ j : Nat, j < N → (Term.elem tm (.int (Int32.ofNat j))).eval args s none [] s = some (.int (f j))) :
    ∃ (t : Nat) (cell : Cell), tm.eval args s none [] s = some (.ref t) ∧ s.heap[t]? = some cell ∧ s.isArrayOf cell .int ∧ cell.vm ≠ .unknown ∧ cell.slots.size = N ∧ ∀ j, j < N → cell.slots[j]? = some (.int (f j)) := by
  obtain ⟨t, cell, ht, hat, hv⟩ := Term.length_spec hlen
  obtain ⟨hcell, hkn, -, -⟩ := State.arrayAt?_spec hat
  obtain ⟨hof, -⟩ := Cond.arrayOf_spec harr ht hcell
  have hsz : cell.slots.size < 2 ^ 31 := by
    simp only [Term.eval, ht, hat, Option.bind_eq_bind, Option.bind_some] at hlen
    by_cases hlt : cell.slots.size < 2147483648
    · exact hlt
    · simp [hlt] at hlen
  have hn : cell.slots.size = N := by
    have e : Int32.ofNat N = Int32.ofNat cell.slots.size := Value.int.inj hv
    have e2 := congrArg Int32.toNatClampNeg e
    rw [Int32.toNatClampNeg_ofNat_of_lt hN, Int32.toNatClampNeg_ofNat_of_lt hsz] at e2
    exact e2.symm
  refine ⟨t, cell, ht, hcell, hof, hkn, hn, fun j hj => ?_⟩
  obtain ⟨a, i, cell2, h1, h2, h3, h4, h5⟩ := Term.elem_spec (hel j hj)
  cases ht.symm.trans h1
  cases hat.symm.trans h3
  have hi : i = Int32.ofNat j := by
    have e : (Term.int (Int32.ofNat j)).eval args s none [] s = some (.int (Int32.ofNat j)) := rfl
    cases h2.symm.trans e
    rfl
  have hc : i.toNatClampNeg = j := by rw [hi]; exact Int32.toNatClampNeg_ofNat_of_lt (Nat.lt_trans hj hN)
  rw [hc] at h5
  exact h5
/-- a static field that the entry gives -/
theorem qz_st {args : Array Value} {s : State} {C n d : String} {v : Value} (hl : (Cond.laysStatic C n d).before args s = true) (hini : (Cond.initialized C).before args s = true) (hv : (Term.static C n d).eval args s none [] s = some v) : ∃ (ra : Nat) (rc : Cell), s.heap[ra]? = some rc ∧ qn_z1 C n d v rc ra s := by
  obtain ⟨c, k, i, f, a, cell, hc, hi, hst, ha, hcell, hs, hcls, hlt, hty⟩ := Cond.laysStatic_spec hl
  obtain ⟨hst', a', cell', ha', hcell', -, hslot⟩ := Term.static_spec hi hv
  cases ha.symm.trans ha'
  cases hcell.symm.trans hcell'
  exact ⟨a, cell, hcell, c, k, i, f, hi, hst, Cond.initialized_spec hc (State.fieldFound?_spec hi).1 hini, ha, hs, hslot, hc, hcls, hty⟩
theorem qz_st2 {s : State} {C n d n' d' : String} {v v' : Value} {rc rc' : Cell} {ra ra' : Nat} (h : qn_z1 C n d v rc ra s) (h' : qn_z1 C n' d' v' rc' ra' s) : ra = ra' := by
  obtain ⟨c, k, i, f, h1, h2, h3, h4, h5, h6, h7, h8, h9⟩ := h
  obtain ⟨c', k', i', f', g1, g2, g3, g4, g5, g6, g7, g8, g9⟩ := h'
  cases h7.symm.trans g7
  cases (State.fieldFound?_spec h1).1.symm.trans (State.fieldFound?_spec g1).1
  exact Option.some.inj (h4.symm.trans g4)
def qz_ckA (k : Nat) : Bool := match qk_tag k with
  | 1 => decide (Cond.arrayClass .int ∈ tables_1)
  | 2 => decide (Cond.arrayClass .boolean ∈ tables_1)
  | 3 => decide (Cond.arrayClass .long ∈ tables_1)
  | 4 => decide (Cond.arrayOver (.object (qt_cn (qk_cls k))) ∈ tables_1)
  | _ => true
set_option maxRecDepth 100000 in
theorem qz_arrs : ∀ k, k < 80 → qz_ckA k = true := by decide +kernel
set_option maxRecDepth 100000 in
theorem qz_nest : ∀ w ∈ qn_nest, w ∈ tables_1 ∧ w.onTables = true := by decide +kernel
set_option maxRecDepth 100000 in
theorem qz_nw : ∀ w ∈ qn_nw, w ∈ tables_1 ∧ w.onTables = true := by decide +kernel
set_option maxRecDepth 100000 in
theorem qz_ls : ∀ w ∈ ([.laysStatic "PeriodKernel$Word" "TAKES" "[I", .laysStatic "PeriodKernel$Word" "LEAVES" "[I", .laysStatic "java/lang/Throwable" "UNASSIGNED_STACK" "[Ljava/lang/StackTraceElement;", .laysStatic "java/lang/Throwable" "SUPPRESSED_SENTINEL" "Ljava/util/List;", .initialized "PeriodKernel$Word", .initialized "java/lang/Throwable"] : List Cond), w ∈ tables_1 := by decide +kernel
set_option maxRecDepth 100000 in
theorem qz_str : ∀ q ∈ qn_str, Cond.stringRef "PeriodKernel" q.1 q.2 ∈ tables_1 ∧ Cond.exactly (.string "PeriodKernel" q.1) "java/lang/String" ∈ flatC (Jvm.Cond.and given_1 narrow_1) := by decide +kernel
set_option maxRecDepth 100000 in
theorem qz_nc : ∀ i, i < 3 → ∀ j, j < 3 → i ≠ j → Cond.not (.castable (qx_exn (70 + i)) (qx_exn (70 + j))) ∈ flatC (Jvm.Cond.and given_1 narrow_1) := by decide +kernel
set_option maxRecDepth 100000 in
theorem qz_fl : ∀ w ∈ ([.isRef (.static "java/lang/Throwable" "UNASSIGNED_STACK" "[Ljava/lang/StackTraceElement;"), .isRef (.static "java/lang/Throwable" "SUPPRESSED_SENTINEL" "Ljava/util/List;"), .arrayOf (.static "PeriodKernel$Word" "TAKES" "[I") .int, .arrayOf (.static "PeriodKernel$Word" "LEAVES" "[I") .int, .eq (.length (.static "PeriodKernel$Word" "TAKES" "[I")) (.int 17), .eq (.length (.static "PeriodKernel$Word" "LEAVES" "[I")) (.int 17)] : List Cond), w ∈ flatC (Jvm.Cond.and given_1 narrow_1) := by decide +kernel
set_option maxRecDepth 100000 in
theorem qz_el : ∀ j, j < 17 → Cond.eq (.elem (.static "PeriodKernel$Word" "TAKES" "[I") (.int (Int32.ofNat j))) (.int (qz_tk.getD j 0)) ∈ flatC (Jvm.Cond.and given_1 narrow_1) ∧ Cond.eq (.elem (.static "PeriodKernel$Word" "LEAVES" "[I") (.int (Int32.ofNat j))) (.int (qz_lk.getD j 0)) ∈ flatC (Jvm.Cond.and given_1 narrow_1) := by decide +kernel
set_option maxRecDepth 100000 in
theorem qz_tag : ∀ k, k < 80 → (qk_tag k = 5 → k = 62 ∨ k = 63 ∨ k = 64) ∧ (qk_tag k = 7 → k = 65 ∨ k = 66) ∧ (62 ≤ k → k ≤ 66 → qk_tag k = 5 ∨ qk_tag k = 7) := by decide +kernel
set_option maxRecDepth 100000 in
theorem qz_code : code = qt_bytes 169 := rfl
