/-! facts of the throws -/
def qx_exn (k : Nat) : String := bif Nat.beq k 70 then "java/lang/IndexOutOfBoundsException" else bif Nat.beq k 71 then "java/lang/IllegalArgumentException" else "java/lang/IllegalStateException"
def qo_ckT (y pc : Nat) : Bool := match qt_thr y pc with
  | none => true
  | some k => decide (70 ≤ k) && decide (k ≤ 72) && decide (qt_own y = 0) && (qt_hraw y).isEmpty && decide (qt_code y pc = some (.new (qt_thx y pc).1, 3)) && decide (qt_code y (pc + 3) = some (.dup, 1)) && decide (qt_code y (pc + 4) = some (.ldc (qt_thx y pc).2.1, 2)) && decide (qt_code y (pc + 6) = some (.invokespecial (qt_thx y pc).2.2, 3)) && decide (qt_code y (pc + 9) = some (.athrow, 1)) &&
    decide (tables_1[qx_cix 0 (qt_thx y pc).1]? = some (.classLink "PeriodKernel" (qt_thx y pc).1 (qx_exn k))) && qn_str.any (fun q => decide (q.1 = (qt_thx y pc).2.1)) && decide ((qt_thx y pc).2.2 = (bif Nat.beq k 70 then 192 else bif Nat.beq k 71 then 199 else 204))
set_option maxRecDepth 100000 in
theorem qo_thr0 : ∀ y, y < 170 → ∀ pc, pc < 64 → qo_ckT y pc = true := by decide +kernel
def qx_names : List String := ["java/lang/RuntimeException", "java/lang/Exception"]
def qn_nw : List Cond := [.castable "java/lang/IndexOutOfBoundsException" "java/lang/IndexOutOfBoundsException", .castable "java/lang/IllegalArgumentException" "java/lang/IllegalArgumentException", .castable "java/lang/IllegalStateException" "java/lang/IllegalStateException", .declares ⟨"java/lang/RuntimeException", "<init>", "(Ljava/lang/String;)V"⟩, .declares ⟨"java/lang/Exception", "<init>", "(Ljava/lang/String;)V"⟩, .declares ⟨"java/lang/Throwable", "<init>", "(Ljava/lang/String;)V"⟩]
def qo_spw (w : Cond) : Bool := decide (w ∈ qn_nw) || decide (w = .laysStatic "java/lang/Throwable" "UNASSIGNED_STACK" "[Ljava/lang/StackTraceElement;") || decide (w = .laysStatic "java/lang/Throwable" "SUPPRESSED_SENTINEL" "Ljava/util/List;") || decide (w = .isRef (.static "java/lang/Throwable" "UNASSIGNED_STACK" "[Ljava/lang/StackTraceElement;")) || decide (w = .isRef (.static "java/lang/Throwable" "SUPPRESSED_SENTINEL" "Ljava/util/List;"))
set_option maxRecDepth 100000 in
theorem qo_oa70 : (Bundle.ownAtoms "PeriodKernel" 192 (qx_exn 70) qx_names).all (fun w => qo_spw w || (decide (w ∈ tables_1) && goodWord w)) = true := by decide +kernel
set_option maxRecDepth 100000 in
theorem qo_oa71 : (Bundle.ownAtoms "PeriodKernel" 199 (qx_exn 71) qx_names).all (fun w => qo_spw w || (decide (w ∈ tables_1) && goodWord w)) = true := by decide +kernel
set_option maxRecDepth 100000 in
theorem qo_oa72 : (Bundle.ownAtoms "PeriodKernel" 204 (qx_exn 72) qx_names).all (fun w => qo_spw w || (decide (w ∈ tables_1) && goodWord w)) = true := by decide +kernel
set_option maxRecDepth 100000 in
theorem qo_xi : ∀ i, i < 3 → Cond.instantiable (qx_exn (70 + i)) 6 ∈ tables_1 ∧ Cond.initialized (qx_exn (70 + i)) ∈ tables_1 := by decide +kernel
set_option maxRecDepth 100000 in
theorem qo_nw0 : ∀ w ∈ qn_nw, w ∈ tables_1 := by decide +kernel
theorem qo_tin {w : Cond} (h : w ∈ tables_1) (hg : goodWord w = true) : w ∈ qw := by
  obtain ⟨i, hi⟩ := List.getElem?_of_mem h
  exact qo_in hi hg
