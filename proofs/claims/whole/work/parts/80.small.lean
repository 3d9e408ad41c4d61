/-! closed forms of small methods -/
def qv_b (b : Bool) : Int32 := bif b then 1 else 0
theorem qv_lt (a b : Int32) : qm_cmp .lt a b = decide (a.toInt < b.toInt) := decide_eq_decide.mpr Int32.lt_iff_toInt_lt
theorem qv_gt (a b : Int32) : qm_cmp .gt a b = decide (b.toInt < a.toInt) := decide_eq_decide.mpr Int32.lt_iff_toInt_lt
theorem qv_ge (a b : Int32) : qm_cmp .ge a b = decide (b.toInt ≤ a.toInt) := decide_eq_decide.mpr Int32.le_iff_toInt_le
theorem qv_le (a b : Int32) : qm_cmp .le a b = decide (a.toInt ≤ b.toInt) := decide_eq_decide.mpr Int32.le_iff_toInt_le
theorem qv_eq (a b : Int32) : qm_cmp .eq a b = decide (a = b) := rfl
theorem qv_ne (a b : Int32) : qm_cmp .ne a b = decide (¬ a = b) := rfl
theorem qv_ne0 (b : Bool) : qm_cmp .ne (qv_b b) 0 = b := by cases b <;> decide
theorem qv_eq0 (b : Bool) : qm_cmp .eq (qv_b b) 0 = !b := by cases b <;> decide
theorem qv13 (a b : Int32) (s : qp_S) : qf13 a b s = some (qv_b (decide (0 ≤ a.toInt ∧ a.toInt < b.toInt))) := by
  unfold qf13
  rw [qv_lt, qv_ge, show (0 : Int32).toInt = 0 from rfl]
  by_cases h1 : a.toInt < 0
  · rw [decide_eq_true h1, decide_eq_false (p := 0 ≤ a.toInt ∧ a.toInt < b.toInt) (by omega)]; rfl
  · rw [decide_eq_false h1]
    by_cases h2 : b.toInt ≤ a.toInt
    · rw [decide_eq_true h2, decide_eq_false (by omega)]; rfl
    · rw [decide_eq_false h2, decide_eq_true (by omega)]; rfl
theorem qv116 (a lo hi : Int32) (s : qp_S) : qf116 a lo hi s = some (qv_b (decide (lo.toInt ≤ a.toInt ∧ a.toInt ≤ hi.toInt))) := by
  unfold qf116
  rw [qv_lt, qv_gt]
  by_cases h1 : a.toInt < lo.toInt
  · rw [decide_eq_true h1, decide_eq_false (p := lo.toInt ≤ a.toInt ∧ a.toInt ≤ hi.toInt) (by omega)]; rfl
  · rw [decide_eq_false h1]
    by_cases h2 : hi.toInt < a.toInt
    · rw [decide_eq_true h2, decide_eq_false (by omega)]; rfl
    · rw [decide_eq_false h2, decide_eq_true (by omega)]; rfl
theorem qv24 (a b : Int32) (s : qp_S) : qf24 a b s = bif decide (0 ≤ a.toInt ∧ a.toInt < b.toInt) then some (.inr 0) else some (.inl 70) := by
  unfold qf24
  rw [qv13, Option.bind_some, qv_ne0]
theorem qv25 (b : Bool) (s : qp_S) : qf25 (qv_b b) s = bif b then some (.inr 0) else some (.inl 71) := by
  unfold qf25
  rw [qv_ne0]
theorem qv26 (s : qp_S) : qf26 s = bif decide (s 1 0 8 = 0) then some (.inr 0) else some (.inl 72) := rfl
theorem qv106 (s : qp_S) : qf106 s = bif decide (¬ s 1 0 8 = 0) then some (.inr 0) else some (.inl 72) := rfl
/-- what `may` answers and sets -/
theorem qv117 (x y : Bool) (s : qp_S) : qf117 (qv_b x) (qv_b y) s = some (qv_b (x && y && decide (s 30 0 20 = 0)), qp_up s 30 0 0 (bif !x then 1 else bif !y then 2 else bif decide (s 30 0 20 = 0) then 0 else 3)) := by
  have h : ∀ v : Int32, qf117_29 v s = some (qv_b (decide (v = 0)), qp_up s 30 0 0 v) := by
    intro v
    unfold qf117_29
    rw [show (qp_up s 30 0 0 v) 30 0 0 = v from rfl, qv_ne]
    by_cases hv : v = 0
    · rw [decide_eq_false (fun z => z hv), decide_eq_true hv]; rfl
    · rw [decide_eq_true hv, decide_eq_false hv]; rfl
  unfold qf117
  rw [qv_ne0, qv_ne0, qv_eq, h, h, h, h]
  cases x <;> cases y <;> cases decide (s 30 0 20 = 0) <;> rfl
