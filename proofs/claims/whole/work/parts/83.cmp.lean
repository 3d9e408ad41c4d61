/-! comparisons, when they are known -/
theorem qu_ltT {a b : Int32} (h : a.toInt < b.toInt) : qm_cmp .lt a b = true := by rw [qv_lt]; exact decide_eq_true h
theorem qu_ltF {a b : Int32} (h : b.toInt ≤ a.toInt) : qm_cmp .lt a b = false := by rw [qv_lt]; exact decide_eq_false (by omega)
theorem qu_gtT {a b : Int32} (h : b.toInt < a.toInt) : qm_cmp .gt a b = true := by rw [qv_gt]; exact decide_eq_true h
theorem qu_gtF {a b : Int32} (h : a.toInt ≤ b.toInt) : qm_cmp .gt a b = false := by rw [qv_gt]; exact decide_eq_false (by omega)
theorem qu_geT {a b : Int32} (h : b.toInt ≤ a.toInt) : qm_cmp .ge a b = true := by rw [qv_ge]; exact decide_eq_true h
theorem qu_geF {a b : Int32} (h : a.toInt < b.toInt) : qm_cmp .ge a b = false := by rw [qv_ge]; exact decide_eq_false (by omega)
theorem qu_leT {a b : Int32} (h : a.toInt ≤ b.toInt) : qm_cmp .le a b = true := by rw [qv_le]; exact decide_eq_true h
theorem qu_leF {a b : Int32} (h : b.toInt < a.toInt) : qm_cmp .le a b = false := by rw [qv_le]; exact decide_eq_false (by omega)
theorem qu_eqT {a b : Int32} (h : a.toInt = b.toInt) : qm_cmp .eq a b = true := by rw [qv_eq]; exact decide_eq_true (Int32.toInt_inj.mp h)
theorem qu_eqF {a b : Int32} (h : a.toInt ≠ b.toInt) : qm_cmp .eq a b = false := by rw [qv_eq]; exact decide_eq_false (fun e => h (congrArg _ e))
theorem qu_neT {a b : Int32} (h : a.toInt ≠ b.toInt) : qm_cmp .ne a b = true := by rw [qv_ne]; exact decide_eq_true (fun e => h (congrArg _ e))
theorem qu_neF {a b : Int32} (h : a.toInt = b.toInt) : qm_cmp .ne a b = false := by rw [qv_ne]; exact decide_eq_false (fun e => e (Int32.toInt_inj.mp h))
theorem qu_inT {a : Int32} {n : Nat} (h : 0 ≤ a.toInt ∧ a.toInt < n) : qm_inb a n = true := by unfold qm_inb; simp; omega
theorem qu_24T {a b : Int32} {s : qp_S} (h : 0 ≤ a.toInt ∧ a.toInt < b.toInt) : qf24 a b s = some (.inr 0) := by rw [qv24, decide_eq_true h]; rfl
theorem qu_24F {a b : Int32} {s : qp_S} (h : ¬ (0 ≤ a.toInt ∧ a.toInt < b.toInt)) : qf24 a b s = some (.inl 70) := by rw [qv24, decide_eq_false h]; rfl
theorem qu_116T {a lo hi : Int32} {s : qp_S} (h : lo.toInt ≤ a.toInt ∧ a.toInt ≤ hi.toInt) : qf116 a lo hi s = some 1 := by rw [qv116, decide_eq_true h]; rfl
theorem qu_116F {a lo hi : Int32} {s : qp_S} (h : ¬ (lo.toInt ≤ a.toInt ∧ a.toInt ≤ hi.toInt)) : qf116 a lo hi s = some 0 := by rw [qv116, decide_eq_false h]; rfl
theorem qu_13T {a b : Int32} {s : qp_S} (h : 0 ≤ a.toInt ∧ a.toInt < b.toInt) : qf13 a b s = some 1 := by rw [qv13, decide_eq_true h]; rfl
theorem qu_13F {a b : Int32} {s : qp_S} (h : ¬ (0 ≤ a.toInt ∧ a.toInt < b.toInt)) : qf13 a b s = some 0 := by rw [qv13, decide_eq_false h]; rfl
theorem qu_25T {s : qp_S} : qf25 1 s = some (.inr 0) := rfl
theorem qu_25F {s : qp_S} : qf25 0 s = some (.inl 71) := rfl
theorem qu_26T {s : qp_S} (h : s 1 0 8 = qv_b false) : qf26 s = some (.inr 0) := by rw [qv26, h]; rfl
theorem qu_26F {s : qp_S} (h : s 1 0 8 = qv_b true) : qf26 s = some (.inl 72) := by rw [qv26, h]; rfl
theorem qu_117a {y : Int32} {s : qp_S} : qf117 0 y s = some (0, qp_up s 30 0 0 1) := rfl
theorem qu_117b {s : qp_S} : qf117 1 0 s = some (0, qp_up s 30 0 0 2) := rfl
theorem qu_117c {s : qp_S} (h : s 30 0 20 = qv_b true) : qf117 1 1 s = some (0, qp_up s 30 0 0 3) := by
  have := qv117 true true s
  rw [h] at this
  exact this
theorem qu_117d {s : qp_S} (h : s 30 0 20 = qv_b false) : qf117 1 1 s = some (1, qp_up s 30 0 0 0) := by
  have := qv117 true true s
  rw [h] at this
  exact this
theorem qu_10F : qm_cmp .eq (1 : Int32) 0 = false := by decide
theorem qu_00T : qm_cmp .eq (0 : Int32) 0 = true := by decide
theorem qu_n10 : qm_cmp .ne (1 : Int32) 0 = true := by decide
theorem qu_n00 : qm_cmp .ne (0 : Int32) 0 = false := by decide
theorem qu_pk {s : qp_S} {k i j a b c : Nat} {v : Int32} (h : a ≠ k) : qp_up s k i j v a b c = s a b c := if_neg (fun e => h e.1)
theorem qu_pi {s : qp_S} {k i j a b c : Nat} {v : Int32} (h : b ≠ i) : qp_up s k i j v a b c = s a b c := if_neg (fun e => h e.2.1)
theorem qu_pj {s : qp_S} {k i j a b c : Nat} {v : Int32} (h : c ≠ j) : qp_up s k i j v a b c = s a b c := if_neg (fun e => h e.2.2)
theorem qu_ps {s : qp_S} {k i j : Nat} {v : Int32} : qp_up s k i j v k i j = v := if_pos ⟨rfl, rfl, rfl⟩
/-- nothing runs: no jobs -/
theorem qu_J0 {x y : qp_S} {T B c n : Nat} (h : qa x y false T B c n) : ∀ i, i < 8 → qa_J0 x y i := by
  intro i hi
  rcases h.2.2.2.2.2.2.2.2.2.1 i hi with hj | hj
  · exact hj
  · have := (h.2.2.2.2.2.2.2.2.2.2.2.2.2.2.1 rfl).2.2.2.2.2 i hi
    rw [hj.1] at this
    exact absurd this (by decide)
theorem qu_J0c {x y x' y' : qp_S} {i : Nat} (h : qa_J0 x y i) (a1 : y' 50 0 i = y 50 0 i) (a2 : x' 14 i 3 = x 14 i 3) (a3 : x' 14 i 8 = x 14 i 8) (a4 : x' 14 i 9 = x 14 i 9) (a5 : x' 14 i 4 = x 14 i 4) (a6 : x' 19 i 1 = x 19 i 1) (a7 : x' 14 i 10 = x 14 i 10) (a8 : ∀ j, j < 4 → x' 18 i j = y' 37 0 (4 * i + j)) (a9 : ∀ j, j < 6 → x' 16 (6 * i + j) 2 = y' 36 0 (6 * i + j)) : qa_J0 x' y' i := by
  obtain ⟨h1, h2, h3, h4, h5, h6, h7, h8, h9, h10⟩ := h
  refine ⟨a1.trans h1, a2.trans h2, a3.trans h3, a4.trans h4, a5.trans h5, a6.trans h6, a7.trans h7, fun j hj => absurd hj (Nat.not_lt_zero _), fun j hj => ?_, fun j hj => ?_⟩
  · show _ = if j < 4 then _ else _
    rw [if_pos hj]; exact a8 j hj
  · show _ = if j < 6 then _ else _
    rw [if_pos hj]; exact a9 j hj
theorem qu_J0l {x y : qp_S} {i : Nat} (h : qa_J0 x y i) : (∀ j, j < 4 → x 18 i j = y 37 0 (4 * i + j)) ∧ ∀ j, j < 6 → x 16 (6 * i + j) 2 = y 36 0 (6 * i + j) := by
  obtain ⟨h1, h2, h3, h4, h5, h6, h7, h8, h9, h10⟩ := h
  refine ⟨fun j hj => ?_, fun j hj => ?_⟩
  · have := h9 j hj
    rw [this]; show (if j < 4 then _ else _) = _
    rw [if_pos hj]
  · have := h10 j hj
    rw [this]; show (if j < 6 then _ else _) = _
    rw [if_pos hj]
theorem qv_c6 (i j : Nat) : (6 : Int32) * Int32.ofNat i + Int32.ofNat j = Int32.ofNat (6 * i + j) := by rw [Int32.ofNat_add, Int32.ofNat_mul]; rfl
theorem qv_c4 (i j : Nat) : (4 : Int32) * Int32.ofNat i + Int32.ofNat j = Int32.ofNat (4 * i + j) := by rw [Int32.ofNat_add, Int32.ofNat_mul]; rfl
theorem qv_c8 (i j : Nat) : (8 : Int32) * Int32.ofNat i + Int32.ofNat j = Int32.ofNat (8 * i + j) := by rw [Int32.ofNat_add, Int32.ofNat_mul]; rfl
theorem qv_c32 (i j : Nat) : (32 : Int32) * Int32.ofNat i + Int32.ofNat j = Int32.ofNat (32 * i + j) := by rw [Int32.ofNat_add, Int32.ofNat_mul]; rfl
theorem qv_d4 (i : Nat) : (4 : Int32) * Int32.ofNat i = Int32.ofNat (4 * i) := by rw [Int32.ofNat_mul]; rfl
theorem qv_d16 (i : Nat) : (16 : Int32) * Int32.ofNat i = Int32.ofNat (16 * i) := by rw [Int32.ofNat_mul]; rfl
theorem qv_f4 (i : Nat) : Int32.ofNat i * (4 : Int32) = Int32.ofNat (i * 4) := by rw [Int32.ofNat_mul]; rfl
theorem qv_a1 (i : Nat) : Int32.ofNat i + (1 : Int32) = Int32.ofNat (i + 1) := by rw [Int32.ofNat_add]; rfl
theorem qv_a2 (i : Nat) : Int32.ofNat i + (2 : Int32) = Int32.ofNat (i + 2) := by rw [Int32.ofNat_add]; rfl
theorem qv_a3 (i : Nat) : Int32.ofNat i + (3 : Int32) = Int32.ofNat (i + 3) := by rw [Int32.ofNat_add]; rfl
