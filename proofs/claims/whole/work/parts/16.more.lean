/-! facts of the JDK's own calls and of the tables of handlers -/
def qo_ckP (o ix : Nat) : Bool := match qt_spc o ix with
  | 0 => true
  | 1 => decide (tables_1[qx_met o ix]? = some (.methodLink (qt_cn o) ix objectInit))
  | 2 => decide (tables_1[qx_met o ix]? = some (.methodLink (qt_cn o) ix Lib.Math.max.name))
  | 3 => decide (tables_1[qx_met o ix]? = some (.methodLink (qt_cn o) ix Lib.Math.min.name))
  | _ => false
set_option maxRecDepth 100000 in
theorem qo_spc0 : ∀ o, o < 15 → ∀ ix, ix < 300 → qo_ckP o ix = true := by decide +kernel
theorem qo_spc {o ix n : Nat} (h : qt_spc o ix = n + 1) : (n = 0 ∧ Cond.methodLink (qt_cn o) ix objectInit ∈ qw) ∨ (n = 1 ∧ Cond.methodLink (qt_cn o) ix Lib.Math.max.name ∈ qw) ∨ (n = 2 ∧ Cond.methodLink (qt_cn o) ix Lib.Math.min.name ∈ qw) := by
  by_cases hb : o < 15 ∧ ix < 300
  · have h1 := qo_spc0 o hb.1 ix hb.2
    unfold qo_ckP at h1
    rw [h] at h1
    match n, h1 with
    | 0, h1 => exact Or.inl ⟨rfl, qo_in (of_decide_eq_true h1) rfl⟩
    | 1, h1 => exact Or.inr (Or.inl ⟨rfl, qo_in (of_decide_eq_true h1) rfl⟩)
    | 2, h1 => exact Or.inr (Or.inr ⟨rfl, qo_in (of_decide_eq_true h1) rfl⟩)
    | n + 3, h1 => cases h1
  · unfold qt_spc at h
    rw [qo_b2 hb] at h
    cases h
set_option maxRecDepth 100000 in
theorem qo_jdk : ∀ w ∈ ([.instanceMethod objectInit, .code objectInit ⟨#[0xb1]⟩ 1 none, .static Lib.Math.max.name, .static Lib.Math.min.name, .initialized "java/lang/Math", .code Lib.Math.max.name Lib.Math.max.code 2 (some .int), .code Lib.Math.min.name Lib.Math.min.code 2 (some .int)] : List Cond), w ∈ tables_1 ∧ goodWord w = true := by decide +kernel
def qo_relB (o : Nat) : List (Nat × Nat × Nat × Nat) → List (Nat × Nat × Nat × Nat) → Bool
  | [], [] => true
  | (a, b, t, ct) :: r, (a', b', t', j) :: r' => decide (a = a') && decide (b = b') && decide (t = t') && decide (ct ≠ 0) && decide (70 ≤ j) && decide (j ≤ 72) && decide (tables_1[qx_cix o ct]? = some (.classLink (qt_cn o) ct (qx_exn j))) && qo_relB o r r'
  | _, _ => false
set_option maxRecDepth 100000 in
theorem qo_rel0 : ∀ y, y < 170 → qo_relB (qt_own y) (qt_hraw y) (qt_hnd y) = true ∧ ((qt_hraw y).isEmpty = true ∨ qt_pure y = false) := by decide +kernel
