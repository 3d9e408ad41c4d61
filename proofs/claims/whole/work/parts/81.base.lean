/-! small numbers, and a rule for loops -/
theorem qv_tI (k : Nat) (h : k < 2147483648) : (Int32.ofNat k).toInt = k := Int32.toInt_ofNat_of_lt h
theorem qv_tN (k : Nat) (h : k < 2147483648) : (Int32.ofNat k).toNatClampNeg = k := by
  rw [← Int32.toNat_toInt, qv_tI k h]; rfl
theorem qv_in (k n : Nat) (h : k < 2147483648) : qm_inb (Int32.ofNat k) n = decide (k < n) := by
  unfold qm_inb; rw [qv_tI k h]; simp
theorem qv_s1 (k : Nat) : Int32.ofNat k + 1 = Int32.ofNat (k + 1) := by
  rw [Int32.ofNat_add]; rfl
theorem qv_ex {a : Int32} {N : Nat} (h0 : 0 ≤ a.toInt) (h1 : a.toInt < N) : ∃ k, k < N ∧ a = Int32.ofNat k := by
  refine ⟨a.toInt.toNat, by omega, ?_⟩
  apply Int32.toInt_inj.mp
  have := Int32.toInt_lt a
  rw [qv_tI _ (by omega)]; omega
theorem qv_mi (a b : Nat) : Int32.ofNat a = Int32.ofNat b → a < 2147483648 → b < 2147483648 → a = b := by
  intro h ha hb
  have := congrArg Int32.toInt h
  rw [qv_tI a ha, qv_tI b hb] at this
  omega
theorem qv_ni (a b : Nat) (ha : a < 2147483648) (hb : b < 2147483648) : (Int32.ofNat a = Int32.ofNat b) = (a = b) := by
  apply propext
  exact ⟨fun h => qv_mi a b h ha hb, fun h => by rw [h]⟩
theorem qv_mm (a : Nat) (h : a < 2147483648) : ¬ Int32.ofNat a = -1 := by
  intro e
  have := congrArg Int32.toInt e
  rw [qv_tI a h, show (-1 : Int32).toInt = -1 from rfl] at this
  omega
theorem qv_gej (a b : Nat) (ha : a < 2147483648) (hb : b < 2147483648) : qm_cmp .ge (Int32.ofNat a) (Int32.ofNat b) = decide (b ≤ a) := by
  rw [qv_ge, qv_tI a ha, qv_tI b hb]; simp
theorem qv_ltj (a b : Nat) (ha : a < 2147483648) (hb : b < 2147483648) : qm_cmp .lt (Int32.ofNat a) (Int32.ofNat b) = decide (a < b) := by
  rw [qv_lt, qv_tI a ha, qv_tI b hb]; simp
theorem qv_lej (a b : Nat) (ha : a < 2147483648) (hb : b < 2147483648) : qm_cmp .le (Int32.ofNat a) (Int32.ofNat b) = decide (a ≤ b) := by
  rw [qv_le, qv_tI a ha, qv_tI b hb]; simp
theorem qv_gtj (a b : Nat) (ha : a < 2147483648) (hb : b < 2147483648) : qm_cmp .gt (Int32.ofNat a) (Int32.ofNat b) = decide (b < a) := by
  rw [qv_gt, qv_tI a ha, qv_tI b hb]; simp
theorem qv_eqj (a b : Nat) (ha : a < 2147483648) (hb : b < 2147483648) : qm_cmp .eq (Int32.ofNat a) (Int32.ofNat b) = decide (a = b) := by
  simp [qv_eq, qv_ni a b ha hb]
theorem qv_nej (a b : Nat) (ha : a < 2147483648) (hb : b < 2147483648) : qm_cmp .ne (Int32.ofNat a) (Int32.ofNat b) = decide (¬ a = b) := by
  simp [qv_ne, qv_ni a b ha hb]
theorem qv_mul (c k : Nat) : Int32.ofNat c * Int32.ofNat k = Int32.ofNat (c * k) := (Int32.ofNat_mul c k).symm
theorem qv_add (c k : Nat) : Int32.ofNat c + Int32.ofNat k = Int32.ofNat (c + k) := (Int32.ofNat_add c k).symm
theorem qv_sub (c k : Nat) (h : k ≤ c) : Int32.ofNat c - Int32.ofNat k = Int32.ofNat (c - k) := (Int32.ofNat_sub c k h).symm
theorem qv_lit (k : Nat) : (OfNat.ofNat k : Int32) = Int32.ofNat k := rfl
/-- what a loop that counts up to `N` answers -/
theorem qv_loop {α ρ : Type} (f : Nat → Nat → α → Option ρ) (N : Nat) (I : Nat → α → Prop) (Q : ρ → Prop)
    (hs : ∀ n k x, k < N → I k x → (∃ r, f (n + 1) k x = some r ∧ Q r) ∨ ∃ x', f (n + 1) k x = f n (k + 1) x' ∧ I (k + 1) x')
    (he : ∀ n x, I N x → ∃ r, f (n + 1) N x = some r ∧ Q r) :
    ∀ n k x, k ≤ N → N < n + k → I k x → ∃ r, f n k x = some r ∧ Q r := by
  intro n
  induction n with
  | zero => intro k x h1 h2; omega
  | succ n ih =>
    intro k x h1 h2 hI
    by_cases hk : k = N
    · subst hk; exact he n x hI
    · rcases hs n k x (by omega) hI with h | ⟨x', e, hI'⟩
      · exact h
      · rw [e]; exact ih (k + 1) x' (by omega) (by omega) hI'
/-- two loops side by side -/
theorem qv_loop2 {α β ρ σ : Type} (f : Nat → Nat → α → Option ρ) (g : Nat → Nat → β → Option σ) (N : Nat) (I : Nat → α → β → Prop) (Q : ρ → σ → Prop)
    (hs : ∀ n k x y, k < N → I k x y → ∃ x' y', (∀ n, f (n + 1) k x = f n (k + 1) x') ∧ g (n + 1) k y = g n (k + 1) y' ∧ I (k + 1) x' y')
    (he : ∀ n x y, I N x y → ∃ r t, (∀ n, f (n + 1) N x = some r) ∧ g (n + 1) N y = some t ∧ Q r t) :
    ∀ n n' k x y, k ≤ N → N < n + k → N < n' + k → I k x y → ∃ r t, f n k x = some r ∧ g n' k y = some t ∧ Q r t := by
  intro n
  induction n with
  | zero => intro n' k x y h1 h2; omega
  | succ n ih =>
    intro n' k x y h1 h2 h3 hI
    obtain ⟨n', rfl⟩ : ∃ z, n' = z + 1 := ⟨n' - 1, by omega⟩
    by_cases hk : k = N
    · subst hk
      obtain ⟨r, t, e1, e2, hq⟩ := he n' x y hI
      exact ⟨r, t, e1 n, e2, hq⟩
    · obtain ⟨x', y', e1, e2, hI'⟩ := hs n' k x y (by omega) hI
      rw [e1 n, e2]
      exact ih n' (k + 1) x' y' (by omega) (by omega) (by omega) hI'
theorem qv_inT (k n : Nat) (h : k < n) (hn : n < 2147483648) : qm_inb (Int32.ofNat k) n = true := by
  rw [qv_in k n (by omega)]; simp; exact h
theorem qv_g4 (k : Nat) (h : k < 4) : qm_cmp .ge (Int32.ofNat k) 4 = false := by
  have := qv_gej k 4 (by omega) (by decide)
  rw [show (Int32.ofNat 4) = 4 from rfl] at this
  rw [this]; simp; omega
theorem qv_e4 : qm_cmp .ge (Int32.ofNat 4) 4 = true := by decide
theorem qv_g6 (k : Nat) (h : k < 6) : qm_cmp .ge (Int32.ofNat k) 6 = false := by
  have := qv_gej k 6 (by omega) (by decide)
  rw [show (Int32.ofNat 6) = 6 from rfl] at this
  rw [this]; simp; omega
theorem qv_e6 : qm_cmp .ge (Int32.ofNat 6) 6 = true := by decide
theorem qv_g8 (k : Nat) (h : k < 8) : qm_cmp .ge (Int32.ofNat k) 8 = false := by
  have := qv_gej k 8 (by omega) (by decide)
  rw [show (Int32.ofNat 8) = 8 from rfl] at this
  rw [this]; simp; omega
theorem qv_e8 : qm_cmp .ge (Int32.ofNat 8) 8 = true := by decide
theorem qv_g16 (k : Nat) (h : k < 16) : qm_cmp .ge (Int32.ofNat k) 16 = false := by
  have := qv_gej k 16 (by omega) (by decide)
  rw [show (Int32.ofNat 16) = 16 from rfl] at this
  rw [this]; simp; omega
theorem qv_e16 : qm_cmp .ge (Int32.ofNat 16) 16 = true := by decide
theorem qv_g32 (k : Nat) (h : k < 32) : qm_cmp .ge (Int32.ofNat k) 32 = false := by
  have := qv_gej k 32 (by omega) (by decide)
  rw [show (Int32.ofNat 32) = 32 from rfl] at this
  rw [this]; simp; omega
theorem qv_e32 : qm_cmp .ge (Int32.ofNat 32) 32 = true := by decide
theorem qv_g48 (k : Nat) (h : k < 48) : qm_cmp .ge (Int32.ofNat k) 48 = false := by
  have := qv_gej k 48 (by omega) (by decide)
  rw [show (Int32.ofNat 48) = 48 from rfl] at this
  rw [this]; simp; omega
theorem qv_e48 : qm_cmp .ge (Int32.ofNat 48) 48 = true := by decide
