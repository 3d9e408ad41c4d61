/-! the law's loop -/
theorem qi_of {n : Nat} (h : n < 2147483648) : (Int32.ofNat n).toInt = n := by
  first | exact Int32.toInt_ofNat_of_lt h | (rw [Int32.toInt_ofNat', Int.bmod_def]; omega)
theorem qi_add (a j : Nat) : Int32.ofNat a + Int32.ofNat j = Int32.ofNat (a + j) := (Int32.ofNat_add a j).symm
theorem qi_inb {a j L : Nat} (h : a + j < L) (hL : L < 2147483648) : qm_inb (Int32.ofNat a + Int32.ofNat j) L = true := by
  rw [qi_add]
  unfold qm_inb
  rw [qi_of (by omega)]
  simp
  omega
theorem qi_sub {L : Nat} (h : L ≤ 3072) : (Int32.ofNat L - 6).toInt = (L : Int) - 6 := by
  rw [Int32.toInt_sub, qi_of (by omega)]
  show Int.bmod ((L : Int) - 6) (2 ^ 32) = _
  rw [Int.bmod_def]
  omega
theorem qi_gt {a L : Nat} (ha : a < 2147483648) (h : L ≤ 3072) : qm_cmp .gt (Int32.ofNat a) (Int32.ofNat L - 6) = decide (L < a + 6) := by
  unfold qm_cmp
  dsimp only
  apply decide_eq_decide.mpr
  rw [Int32.lt_iff_toInt_lt, qi_sub h, qi_of ha]
  omega
theorem qz_loop {L : Nat} {xs : Nat → Int32} {R : qp_S → Prop} (H : qo_all R) (hL : L ≤ 3072) : ∀ (m k : Nat), L < 6 * (k + m) + 6 → k ≤ 600 → ∀ (s : qp_S) (x : Int64) (e : Nat → Nat) (c1 c2 : Nat), R s →
    ∃ (h' : qm_H) (c' : qm_C), (∀ u5 u6, qm_E (qz_ro L xs) 12 169 (23, ql_L (Int32.ofNat (6 * k)) u5 u6, [], qp_H s x e, (c1, c2)) (.inl (some (vI 1)), h', c')) ∧ c'.1 ≤ c1 + m ∧ c'.2 ≤ c2 + 6 * m := by
  intro m
  induction m with
  | zero =>
    intro k h hk s x e c1 c2 hR
    exact ⟨qp_H s x e, (c1, c2), fun u5 u6 => ql_end (by rw [qi_gt (by omega) hL]; exact decide_eq_true (by omega)), Nat.le_refl _, Nat.le_refl _⟩
  | succ m ih =>
    intro k h hk s x e c1 c2 hR
    by_cases hl : L < 6 * k + 6
    · exact ⟨qp_H s x e, (c1, c2), fun u5 u6 => ql_end (by rw [qi_gt (by omega) hL]; exact decide_eq_true hl), Nat.le_add_right _ _, Nat.le_add_right _ _⟩
    · have e6 : Int32.ofNat (6 * k) + 6 = Int32.ofNat (6 * (k + 1)) := (qi_add (6 * k) 6)
      obtain ⟨h', c', hq, hc1, hc2⟩ := qt_turn (L := L) (xs := xs) (x := x) (e := e) (s := s) (c1 := c1) (c2 := c2) (i := Int32.ofNat (6 * k)) (m := m) (R := R) (by rw [qi_gt (by omega) hL]; exact decide_eq_false hl)
        (by have := qi_inb (a := 6 * k) (j := 0) (L := L) (by omega) (by omega); rw [qi_add] at this; exact this) (qi_inb (j := 1) (by omega) (by omega)) (qi_inb (j := 2) (by omega) (by omega)) (qi_inb (j := 3) (by omega) (by omega)) (qi_inb (j := 4) (by omega) (by omega)) (qi_inb (j := 5) (by omega) (by omega)) hR
        (fun s2 x2 e2 k1 k2 hR2 => by rw [e6]; exact ih (k + 1) (by omega) (by omega) s2 x2 e2 k1 k2 hR2) H
      exact ⟨h', c', hq, by omega, by omega⟩
