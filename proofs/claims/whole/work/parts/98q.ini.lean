/-! the relation holds at the beginning -/
theorem qz_sT : ∀ n a b c, qc_sT (fun _ _ _ => 0) n a b c = if a = 14 ∧ b < n ∧ c = 0 then 1 else if a = 14 ∧ b < n ∧ (c = 3 ∨ c = 8) then -1 else if a = 16 ∧ b < 6 * n ∧ c = 0 then -1 else 0 := by
  intro n
  induction n with
  | zero =>
    intro a b c
    rw [if_neg (by omega), if_neg (by omega), if_neg (by omega)]; rfl
  | succ n ih =>
    intro a b c
    show qc_w (qp_up (qp_up (qp_up (qc_sT (fun _ _ _ => 0) n) 14 n 0 1) 14 n 3 (-1)) 14 n 8 (-1)) 16 (6 * n) 6 0 (-1) a b c = _
    unfold qc_w qp_up
    rw [ih]
    by_cases h16 : a = 16
    · subst h16
      rw [if_neg (show ¬ ((16 : Nat) = 14 ∧ b = n ∧ c = 8) by omega), if_neg (show ¬ ((16 : Nat) = 14 ∧ b = n ∧ c = 3) by omega), if_neg (show ¬ ((16 : Nat) = 14 ∧ b = n ∧ c = 0) by omega), if_neg (show ¬ ((16 : Nat) = 14 ∧ b < n ∧ c = 0) by omega), if_neg (show ¬ ((16 : Nat) = 14 ∧ b < n ∧ (c = 3 ∨ c = 8)) by omega), if_neg (show ¬ ((16 : Nat) = 14 ∧ b < n + 1 ∧ c = 0) by omega), if_neg (show ¬ ((16 : Nat) = 14 ∧ b < n + 1 ∧ (c = 3 ∨ c = 8)) by omega)]
      by_cases h1 : 6 * n ≤ b ∧ b < 6 * n + 6 ∧ c = 0
      · rw [if_pos ⟨rfl, h1⟩, if_pos ⟨rfl, by omega, h1.2.2⟩]
      · rw [if_neg (fun g => h1 g.2)]
        by_cases h2 : b < 6 * n ∧ c = 0
        · rw [if_pos ⟨rfl, h2⟩, if_pos ⟨rfl, by omega, h2.2⟩]
        · rw [if_neg (fun g => h2 g.2), if_neg (by omega)]
    · rw [if_neg (show ¬ (a = 16 ∧ 6 * n ≤ b ∧ b < 6 * n + 6 ∧ c = 0) by omega), if_neg (show ¬ (a = 16 ∧ b < 6 * n ∧ c = 0) by omega), if_neg (show ¬ (a = 16 ∧ b < 6 * (n + 1) ∧ c = 0) by omega)]
      by_cases h14 : a = 14
      · subst h14
        by_cases c0 : c = 0
        · subst c0
          rw [if_neg (show ¬ ((14 : Nat) = 14 ∧ b = n ∧ 0 = 8) by omega), if_neg (show ¬ ((14 : Nat) = 14 ∧ b = n ∧ 0 = 3) by omega)]
          by_cases hb : b = n
          · subst hb
            rw [if_pos ⟨rfl, rfl, rfl⟩, if_pos ⟨rfl, by omega, rfl⟩]
          · rw [if_neg (show ¬ ((14 : Nat) = 14 ∧ b = n ∧ 0 = 0) by omega)]
            by_cases hb2 : b < n
            · rw [if_pos ⟨rfl, hb2, rfl⟩, if_pos ⟨rfl, by omega, rfl⟩]
            · rw [if_neg (show ¬ ((14 : Nat) = 14 ∧ b < n ∧ 0 = 0) by omega), if_neg (show ¬ ((14 : Nat) = 14 ∧ b < n ∧ (0 = 3 ∨ 0 = 8)) by omega), if_neg (show ¬ ((14 : Nat) = 14 ∧ b < n + 1 ∧ 0 = 0) by omega), if_neg (show ¬ ((14 : Nat) = 14 ∧ b < n + 1 ∧ (0 = 3 ∨ 0 = 8)) by omega)]
        · rw [if_neg (show ¬ ((14 : Nat) = 14 ∧ b = n ∧ c = 0) by omega), if_neg (show ¬ ((14 : Nat) = 14 ∧ b < n ∧ c = 0) by omega), if_neg (show ¬ ((14 : Nat) = 14 ∧ b < n + 1 ∧ c = 0) by omega)]
          by_cases c3 : b < n + 1 ∧ (c = 3 ∨ c = 8)
          · rw [if_pos (show (14 : Nat) = 14 ∧ b < n + 1 ∧ (c = 3 ∨ c = 8) from ⟨rfl, c3⟩)]
            by_cases hb : b = n
            · by_cases e8 : c = 8
              · rw [if_pos ⟨rfl, hb, e8⟩]
              · rw [if_neg (fun g => e8 g.2.2), if_pos ⟨rfl, hb, by omega⟩]
            · rw [if_neg (fun g => hb g.2.1), if_neg (fun g => hb g.2.1), if_pos ⟨rfl, by omega, c3.2⟩]
          · rw [if_neg (show ¬ ((14 : Nat) = 14 ∧ b = n ∧ c = 8) by omega), if_neg (show ¬ ((14 : Nat) = 14 ∧ b = n ∧ c = 3) by omega), if_neg (show ¬ ((14 : Nat) = 14 ∧ b < n ∧ (c = 3 ∨ c = 8)) by omega), if_neg (show ¬ ((14 : Nat) = 14 ∧ b < n + 1 ∧ (c = 3 ∨ c = 8)) by omega)]
      · rw [if_neg (fun g => h14 g.1), if_neg (fun g => h14 g.1), if_neg (fun g => h14 g.1), if_neg (fun g => h14 g.1), if_neg (fun g => h14 g.1), if_neg (fun g => h14 g.1), if_neg (fun g => h14 g.1)]
theorem qz_31 (i : Nat) : qz_s0 31 0 i = if i < 8 then 1 else 0 := by
  show qc_sR1 (qc_s0 (fun _ _ _ => 0)) 31 0 i = _
  by_cases h : i < 8
  · rw [if_pos h]
    have : i = 0 ∨ i = 1 ∨ i = 2 ∨ i = 3 ∨ i = 4 ∨ i = 5 ∨ i = 6 ∨ i = 7 := by omega
    rcases this with e | e | e | e | e | e | e | e <;> subst e <;> rfl
  · rw [if_neg h]
    unfold qc_sR1
    rw [qu_pj (by omega), qu_pj (by omega), qu_pj (by omega), qu_pj (by omega), qu_pj (by omega), qu_pj (by omega), qu_pj (by omega), qu_pj (by omega)]
    show qc_sT (fun _ _ _ => 0) 8 31 0 i = 0
    rw [qz_sT, if_neg (by omega), if_neg (by omega), if_neg (by omega)]
theorem qz_R : qR qz_s0 := by
  have h14 : ∀ i c, qz_s0 14 i c = if (14 : Nat) = 14 ∧ i < 8 ∧ c = 0 then 1 else if (14 : Nat) = 14 ∧ i < 8 ∧ (c = 3 ∨ c = 8) then -1 else 0 := by
    intro i c
    show qc_sT (fun _ _ _ => 0) 8 14 i c = _
    rw [qz_sT]
    congr 1
  have h16 : ∀ k c, qz_s0 16 k c = if (16 : Nat) = 16 ∧ k < 48 ∧ c = 0 then -1 else 0 := by
    intro k c
    show qc_sT (fun _ _ _ => 0) 8 16 k c = _
    rw [qz_sT, if_neg (by omega), if_neg (by omega)]
  have h0 : ∀ a b c, a ≠ 14 → a ≠ 16 → qc_sT (fun _ _ _ => 0) 8 a b c = 0 := by
    intro a b c g1 g2
    rw [qz_sT, if_neg (by omega), if_neg (by omega), if_neg (by omega)]
  have h34 : ∀ k, qz_s0 34 0 k = if (34 : Nat) = 34 ∧ (0 : Nat) = 0 ∧ k < 48 then -1 else 0 := by
    intro k
    show (if (34 : Nat) = 34 ∧ (0 : Nat) = 0 ∧ k < 48 then (-1 : Int32) else qc_sT (fun _ _ _ => 0) 8 34 0 k) = _
    rw [h0 34 0 k (by decide) (by decide)]
  have h45 : ∀ k, qz_s0 45 0 k = if (45 : Nat) = 45 ∧ (0 : Nat) = 0 ∧ k < 8 then -1 else 0 := by
    intro k
    show (if (45 : Nat) = 45 ∧ (0 : Nat) = 0 ∧ k < 8 then (-1 : Int32) else qc_sT (fun _ _ _ => 0) 8 45 0 k) = _
    rw [h0 45 0 k (by decide) (by decide)]
  have h47 : ∀ k, qz_s0 47 0 k = if (47 : Nat) = 47 ∧ (0 : Nat) = 0 ∧ k < 8 then -1 else 0 := by
    intro k
    show (if (47 : Nat) = 47 ∧ (0 : Nat) = 0 ∧ k < 8 then (-1 : Int32) else qc_sT (fun _ _ _ => 0) 8 47 0 k) = _
    rw [h0 47 0 k (by decide) (by decide)]
  have h5 : ∀ k, qz_s0 5 0 k = if (5 : Nat) = 5 ∧ (0 : Nat) = 0 ∧ k < 8 then -1 else 0 := by
    intro k
    show (if (5 : Nat) = 5 ∧ (0 : Nat) = 0 ∧ k < 8 then (-1 : Int32) else qc_sT (fun _ _ _ => 0) 8 5 0 k) = _
    rw [h0 5 0 k (by decide) (by decide)]
  have h26 : ∀ k c, qz_s0 26 k c = if (26 : Nat) = 26 ∧ 0 ≤ k ∧ k < 0 + 8 ∧ c = 0 then -1 else 0 := by
    intro k c
    show (if (26 : Nat) = 26 ∧ 0 ≤ k ∧ k < 0 + 8 ∧ c = 0 then (-1 : Int32) else qc_sT (fun _ _ _ => 0) 8 26 k c) = _
    rw [h0 26 k c (by decide) (by decide)]
  have hz : ∀ a b c, a ≠ 14 → a ≠ 16 → a ≠ 31 → a ≠ 34 → a ≠ 45 → a ≠ 47 → a ≠ 5 → a ≠ 26 → qz_s0 a b c = 0 := by
    intro a b c g1 g2 g3 g4 g5 g6 g7 g8
    show qc_v (qc_v (qc_v (qc_sR1 (qc_s0 (fun _ _ _ => 0))) 34 0 48 (-1)) 45 0 8 (-1)) 47 0 8 (-1) a b c = 0
    unfold qc_v
    rw [if_neg (fun z => g6 z.1), if_neg (fun z => g5 z.1), if_neg (fun z => g4 z.1)]
    unfold qc_sR1
    rw [qu_pk g3, qu_pk g3, qu_pk g3, qu_pk g3, qu_pk g3, qu_pk g3, qu_pk g3, qu_pk g3]
    unfold qc_s0 qc_v qc_w
    rw [if_neg (fun z => g7 z.1), if_neg (fun z => g8 z.1)]
    exact h0 a b c g1 g2
  have z : ∀ a b c, (a ≠ 14 ∧ a ≠ 16 ∧ a ≠ 31 ∧ a ≠ 34 ∧ a ≠ 45 ∧ a ≠ 47 ∧ a ≠ 5 ∧ a ≠ 26) → qz_s0 a b c = 0 := fun a b c g => hz a b c g.1 g.2.1 g.2.2.1 g.2.2.2.1 g.2.2.2.2.1 g.2.2.2.2.2.1 g.2.2.2.2.2.2.1 g.2.2.2.2.2.2.2
  refine ⟨false, 0, 0, 0, 0, ⟨fun i => ?_, fun i hi => ?_⟩, ⟨fun i => ?_, fun i j hi hj => ?_, fun i hi => ?_⟩, ⟨fun k => ?_, fun k => ?_, fun k hk => ?_, fun k hk g => ?_⟩, fun p => ?_, ⟨fun m => ?_, fun m t hm ht => ?_, fun m hm => ?_, fun k hk => ?_⟩, ⟨fun q j hq hj => ?_, fun q hq => ?_⟩, ⟨fun k => ?_, fun k hk => ?_⟩, fun k => ?_, ?_, fun i hi => Or.inl ?_, by omega, by omega, by omega, by omega, fun _ => ⟨rfl, rfl, rfl, rfl, fun k hk => z 49 0 k (by decide), fun i hi => z 50 0 i (by decide)⟩, fun g => by cases g⟩
  · rw [qz_31, h14]
    by_cases g : i < 8
    · rw [if_pos ⟨rfl, g, rfl⟩, if_pos g]
    · rw [if_neg (by omega), if_neg (by omega), if_neg g]
  · rw [qz_31, if_pos hi]
    exact ⟨1, by omega, by omega, rfl⟩
  · rw [h14, z 33 0 i (by decide), if_neg (by omega), if_neg (by omega)]
  · rw [z 17 i j (by decide), z 32 0 _ (by decide)]
  · exact ⟨0, by omega, z 33 0 i (by decide)⟩
  · rw [h16, h34]
    by_cases g : k < 48
    · rw [if_pos ⟨rfl, g, rfl⟩, if_pos ⟨rfl, rfl, g⟩]
    · rw [if_neg (fun g2 => g g2.2.1), if_neg (fun g2 => g g2.2.2)]
  · rw [h16, z 35 0 k (by decide), if_neg (by omega)]
  · exact ⟨Or.inl (by rw [h34, if_pos ⟨rfl, rfl, hk⟩]), 0, by omega, z 35 0 k (by decide)⟩
  · rw [h16, if_neg (by omega)]
  · rw [z 21 p 0 (by decide), z 21 p 1 (by decide), z 21 p 2 (by decide), z 38 0 p (by decide), z 39 0 p (by decide), z 40 0 p (by decide)]
    exact ⟨rfl, rfl, rfl, Int.le_refl _⟩
  · rw [z 22 m 0 (by decide), z 22 m 1 (by decide), z 41 0 m (by decide), z 44 0 m (by decide)]
    exact ⟨rfl, rfl⟩
  · rw [z 23 m t (by decide), z 42 0 _ (by decide)]
  · exact ⟨0, 0, by omega, by omega, z 41 0 m (by decide), z 44 0 m (by decide)⟩
  · exact ⟨0, by omega, z 42 0 k (by decide)⟩
  · rw [z 25 q j (by decide), z 43 0 _ (by decide)]
  · exact ⟨0, 0, by omega, by omega, z 43 0 _ (by decide), z 43 0 _ (by decide)⟩
  · rw [h5, h45, z 6 0 k (by decide), z 46 0 k (by decide), h26, h47, h26, h26, z 48 0 k (by decide), z 49 0 k (by decide), if_neg (show ¬ ((26 : Nat) = 26 ∧ 0 ≤ k ∧ k < 0 + 8 ∧ 1 = 0) by omega), if_neg (show ¬ ((26 : Nat) = 26 ∧ 0 ≤ k ∧ k < 0 + 8 ∧ 2 = 0) by omega)]
    by_cases g : k < 8
    · rw [if_pos ⟨rfl, rfl, g⟩, if_pos ⟨rfl, rfl, g⟩, if_pos ⟨rfl, by omega, by omega, rfl⟩, if_pos ⟨rfl, rfl, g⟩]
      exact ⟨rfl, rfl, rfl, rfl, rfl⟩
    · rw [if_neg (fun g2 => g g2.2.2), if_neg (fun g2 => g g2.2.2), if_neg (by omega), if_neg (fun g2 => g g2.2.2)]
      exact ⟨rfl, rfl, rfl, rfl, rfl⟩
  · rw [h45, h47, if_pos ⟨rfl, rfl, hk⟩, if_pos ⟨rfl, rfl, hk⟩]
    exact ⟨Or.inl rfl, Or.inl rfl⟩
  · rw [z 9 0 k (by decide), z 56 0 k (by decide)]
  · exact ⟨z 1 0 8 (by decide), z 30 0 20 (by decide), z 1 0 9 (by decide), z 30 0 21 (by decide), z 1 0 10 (by decide), z 30 0 22 (by decide), z 1 0 11 (by decide), z 30 0 23 (by decide), z 8 0 1 (by decide), z 30 0 30 (by decide)⟩
  · refine ⟨z 50 0 i (by decide), ?_, ?_, ?_, ?_, z 19 i 1 (by decide), ?_, fun j hj => absurd hj (Nat.not_lt_zero _), fun j hj => ?_, fun j hj => ?_⟩
    · rw [h14, if_neg (by omega), if_pos ⟨rfl, hi, by omega⟩]
    · rw [h14, if_neg (by omega), if_pos ⟨rfl, hi, by omega⟩]
    · rw [h14, if_neg (by omega), if_neg (by omega)]
    · rw [h14, if_neg (by omega), if_neg (by omega)]
    · rw [h14, if_neg (by omega), if_neg (by omega)]; rfl
    · show _ = if j < 4 then _ else _
      rw [if_pos hj, z 18 i j (by decide), z 37 0 _ (by decide)]
    · show _ = if j < 6 then _ else _
      rw [if_pos hj, h16, if_neg (by omega), z 36 0 _ (by decide)]
theorem qz_all : qo_all qR := ⟨qo0, qo1, qo2, qo3, qo4, qo5, qo6, qo7, qo8, qo9, qo10, qo11, qo12, qo13, qo14, qo15, qo16, qo17, qo18⟩
