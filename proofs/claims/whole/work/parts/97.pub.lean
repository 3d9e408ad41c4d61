/-! an instant: the jobs of all tasks that are due are published -/
theorem qb_qx {x y y' : qp_S} {T B c n : Nat} {M : Nat → Prop} (hF : qx_F y y') (h : qb x y T B c n M) : qb x y' T B c n M := by
  have e : qa_d y y' = y := by
    funext k a c
    unfold qa_d
    by_cases g : (k = 30 ∧ (c = 33 ∨ c = 34 ∨ c = 35)) ∨ k = 57 ∨ k = 58 ∨ k = 59
    · rw [if_pos g]
    · rw [if_neg g]
      exact hF k a c (fun z => g (Or.inl z)) (by omega) (by omega) (by omega)
  have : qb x (qa_d y y') T B c n M := by rw [e]; exact h
  exact this
theorem qv_loop5 {β σ : Type} (g : Nat → Nat → β → Option σ) (N : Nat) (I : Nat → β → Prop)
    (hs : ∀ k y, k < N → I k y → ∃ y', (∀ n, g (n + 1) k y = g n (k + 1) y') ∧ I (k + 1) y') (n : Nat) (y : β) (hn : N < n) (h0 : I 0 y) : ∃ y' m, g n 0 y = g (m + 1) N y' ∧ I N y' := by
  obtain ⟨-, y', -, m, -, h1, h2⟩ := qv_loop4 (fun _ _ (_ : Unit) => (none : Option Unit)) g N (fun k _ y => I k y)
    (fun k _ y hk hI => by
      obtain ⟨y', e, hI'⟩ := hs k y hk hI
      exact ⟨(), y', fun _ => rfl, e, hI'⟩) N 0 (N + 1) n () y (by omega) (by omega) (by omega) h0
  exact ⟨y', m, h1, h2⟩
theorem qb_pub1 {x y : qp_S} {T B c n i : Nat} (h : qb x y T B c n (fun _ => True)) (hi : i < 8) (hn : n ≤ 90000000) (h50 : y 50 0 i = 1) (hcl : ¬ 0 < (x 14 i 9).toInt) (hsd : qk_S y i) : ∃ x1 x' y' n', qf78 i x = some (0, x1) ∧ qf81 i x1 = some (0, x') ∧ qf147 (Int32.ofNat i) y = some (0, y') ∧ qb x' y' T B c n' (fun _ => True) ∧ n' ≤ n + 6 ∧ qfr [8, 9, 14, 19, 21] x x' ∧ qfr [30, 36, 37, 40, 50, 56, 57, 58, 59] y y' ∧ y' 50 0 i = 0 ∧ (∀ t, t ≠ i → y' 50 0 t = y 50 0 t) ∧ ∀ t, t ≠ i → ∀ f, x' 14 t f = x 14 t f := by
  have l0 : (0:Int32).toInt = 0 := rfl; have l1 : (1:Int32).toInt = 1 := rfl; have lm : (-1:Int32).toInt = -1 := rfl; have l3 : (3:Int32).toInt = 3 := rfl; have l4 : (4:Int32).toInt = 4 := rfl; have l5 : (5:Int32).toInt = 5 := rfl; have l6 : (6:Int32).toInt = 6 := rfl; have l7 : (7:Int32).toInt = 7 := rfl; have l8 : (8:Int32).toInt = 8 := rfl; have l15 : (15:Int32).toInt = 15 := rfl; have l16 : (16:Int32).toInt = 16 := rfl; have l32 : (32:Int32).toInt = 32 := rfl
  have ti := qv_tI i (by omega)
  have hJi := h.2.2.2.2.2.2.2.2.2.1 i hi trivial
  rcases hJi with hj | hj
  · rw [hj.1] at h50; exact absurd h50 (by decide)
  obtain ⟨a1, a, t, b, a2, a3, a4, a5, a6, a7, a8, a9, a10, a11, a12, a13, a14, a15⟩ := hj
  have hat : a = t := by
    by_cases e : a < t
    · rw [a11, if_pos e, qv_tI (b - a) (by omega)] at hcl
      omega
    · omega
  subst hat
  rw [if_neg (Nat.lt_irrefl a)] at a11 a12
  obtain ⟨o, ho⟩ : ∃ o, o = !(qj_at y i a).2.2.1 := ⟨_, rfl⟩
  rw [← ho] at a10
  rw [a10] at a12
  -- again
  obtain ⟨D, hD, -⟩ := hsd
  obtain ⟨sz, hsz, esz⟩ := h.2.1.2.2 i hi
  have eS : qN (y 33 0 i) = sz := by rw [esz]; exact qv_tN sz (by omega)
  rw [eS] at hD
  obtain ⟨⟨r2, y1⟩, e1, k, e2, e3, e3', e3'', e4, e5⟩ := qya148 (y := y) (N := a) hi (by omega) (fun g => ⟨sz, D, hsz, hD⟩)
  have hk : k = a := by
    rcases e3'' with g | g
    · exact g
    · by_cases hka : k < a
      · have := a8 k hka
        exact absurd (g.symm.trans this) (by decide)
      · omega
  subst hk
  dsimp only at e2 e4 e5
  have h1 : qb x y1 T B c n (fun t => t ≠ i) := by
    have g := qb_qx e5 h
    exact ⟨g.1, g.2.1, g.2.2.1, g.2.2.2.1, g.2.2.2.2.1, g.2.2.2.2.2.1, g.2.2.2.2.2.2.1, g.2.2.2.2.2.2.2.1, g.2.2.2.2.2.2.2.2.1, fun t ht _ => g.2.2.2.2.2.2.2.2.2.1 t ht trivial, g.2.2.2.2.2.2.2.2.2.2⟩
  have h2 : qb x (qp_up y1 50 0 i 0) T B c n (fun t => t ≠ i) := by
    refine ⟨h1.1, h1.2.1, h1.2.2.1, h1.2.2.2.1, h1.2.2.2.2.1, h1.2.2.2.2.2.1, h1.2.2.2.2.2.2.1, h1.2.2.2.2.2.2.2.1, h1.2.2.2.2.2.2.2.2.1, fun t ht hti => ?_, h1.2.2.2.2.2.2.2.2.2.2⟩
    exact qa_Jy (y := y1) (qu_pj hti) rfl rfl rfl rfl rfl rfl rfl rfl (h1.2.2.2.2.2.2.2.2.2.1 t ht hti)
  -- locals
  obtain ⟨y3, m3, g1, g2, g3, g4⟩ := qv_loop5 (fun n k s => qf147_21 n (Int32.ofNat i) (Int32.ofNat k) s) 4 (fun k s => qb x s T B c n (fun t => t ≠ i) ∧ qfr [37] (qp_up y1 50 0 i 0) s ∧ ∀ j, j < k → s 37 0 (4 * i + j) = y1 58 0 j)
    (by
      rintro k s hk ⟨s1, s2, s3⟩
      refine ⟨qp_up s 37 0 (4 * i + k) (s 58 0 k), fun n => ?_, ⟨s1.1, s1.2.1, s1.2.2.1, s1.2.2.2.1, s1.2.2.2.2.1, s1.2.2.2.2.2.1, s1.2.2.2.2.2.2.1, s1.2.2.2.2.2.2.2.1, s1.2.2.2.2.2.2.2.2.1, fun t ht hti => ?_, s1.2.2.2.2.2.2.2.2.2.2⟩, qfr_up (by decide) s2, fun j hj => ?_⟩
      · simp (disch := first | omega | assumption | decide) only [qf147_21, qv_g4, qv_g6, qv_g8, qv_g16, qv_g32, qv_g48, qv_e4, qv_e6, qv_e8, qv_e16, qv_e32, qv_e48, qv_inT, qv_tN, qv_s1, cond_false, cond_true, if_true, qu_ltT, qu_ltF, qu_gtT, qu_gtF, qu_geT, qu_geF, qu_leT, qu_leF, qu_eqT, qu_eqF, qu_neT, qu_neF, qu_inT, qu_24T, qu_24F, qu_116T, qu_116F, qu_13T, qu_13F, qu_25T, qu_25F, qu_26T, qu_26F, qu_117a, qu_117b, qu_117c, qu_117d, qu_10F, qu_00T, qu_n10, qu_n00, Option.bind_some, cond_true, cond_false, if_true, qv_tN, qv_c6, qv_c4, qv_c8, qv_c32, qv_d4, qv_d16, qv_f4, qv_a1, qv_a2, qv_a3, qv_add, qv_inT]
      · exact qa_Jy (y := s) rfl rfl rfl rfl rfl rfl rfl rfl (qj_0c (fun j hj => qu_pj (by omega)) (fun j hj => rfl)) (s1.2.2.2.2.2.2.2.2.2.1 t ht hti)
      · by_cases e : j = k
        · subst e; rw [qu_ps, s2 58 (by decide)]; rfl
        · rw [qu_pj (by omega)]; exact s3 j (by omega))
    4096 (qp_up y1 50 0 i 0) (by decide) ⟨h2, qfr_r, fun j hj => absurd hj (Nat.not_lt_zero _)⟩
  -- slots
  obtain ⟨x4, y4, m4, m4', s1, s2, n4, s3, s4, s5, s6, s7⟩ := qv_loop4 (fun n k s => qf78_2 n i (Int32.ofNat k) s) (fun n k s => qf147_50 n (Int32.ofNat i) (Int32.ofNat k) s) 6 (fun k s s' => ∃ n', qb s s' T B c n' (fun t => t ≠ i) ∧ n' ≤ n + k ∧ qfr [8, 9, 21] x s ∧ qfr [30, 36, 40, 56] y3 s' ∧ ∀ j, j < k → s' 36 0 (6 * i + j) = y3 59 0 j)
    (by
      rintro k s s' hk ⟨n', q1, q2, q3, q4, q5⟩
      have v1 : s 16 (6 * i + k) 2 = s' 59 0 k := by
        rw [q3 16 (by decide), q4 59 (by decide), g3 59 (by decide)]
        show _ = y1 59 0 k
        rw [e4.2.2.2.2.2 k hk, a15.2.2.2.2 k hk]
      have v2 : s 14 i 4 = qv_b o := by rw [q3 14 (by decide)]; exact a12
      have v3 : s' 55 0 i = qv_b o := by
        rw [q4 55 (by decide), g3 55 (by decide)]
        show y1 55 0 i = _
        rw [e5 55 0 i (by omega) (by omega) (by omega) (by omega)]; exact a10
      obtain ⟨x', y', n'', w1, w2, w3, w4, w5, w6, w7, w8⟩ := qb_slot q1 hi hk (by omega) v1 v2 v3
      refine ⟨x', y', w1, w2, n'', w3, by omega, qfr_t q3 w5, qfr_t q4 w6, fun j hj => ?_⟩
      by_cases e : j = k
      · subst e; rw [w7, q4 59 (by decide)]
      · rw [w8 _ (by omega)]; exact q5 j (by omega))
    6 0 4096 4096 x y3 (by decide) (by decide) (by decide) ⟨n, g2, by omega, qfr_r, qfr_r, fun j hj => absurd hj (Nat.not_lt_zero _)⟩
  have hx0 : qf78 i x = some (0, x4) := by
    unfold qf78
    show qf78_2 4096 i (Int32.ofNat 0) x = _
    rw [s1]
    unfold qf78_2
    rw [qv_e6, cond_true]
  have hy0 : qf147 (Int32.ofNat i) y = some (0, y4) := by
    have e8 : qm_inb (Int32.ofNat i) 8 = true := qv_inT i 8 hi (by decide)
    unfold qf147
    rw [if_pos e8, qv_tN i (by omega), a4, e1, Option.bind_some, if_pos e8]
    show qf147_21 4096 (Int32.ofNat i) (Int32.ofNat 0) (qp_up y1 50 0 i 0) = _
    rw [g1]
    unfold qf147_21
    rw [qv_e4, cond_true]
    show qf147_50 4096 (Int32.ofNat i) (Int32.ofNat 0) y3 = _
    rw [s2]
    unfold qf147_50
    rw [qv_e6, cond_true]
  refine ⟨x4, qp_up (qp_up (qp_up (qp_up (qp_up x4 14 i 8 (-1)) 14 i 3 (-1)) 14 i 10 0) 19 i 1 0) 14 i 4 0, y4, n4, hx0, rfl, hy0, ?_, s4, ?_, ?_, ?_, fun t hti => ?_, fun t hti f => ?_⟩
  · obtain ⟨hB, hW, hS, hP, hM, hG, hD0, hE, hK, hJ, hZ⟩ := s3
    refine ⟨⟨fun q => ?_, hB.2⟩, ⟨fun q => ?_, hW.2⟩, hS, hP, hM, hG, hD0, hE, hK, fun t ht _ => ?_, hZ⟩
    · simp (disch := first | omega | decide) only [qu_pk, qu_pj, qu_ps, qu_pi]; exact hB.1 q
    · simp (disch := first | omega | decide) only [qu_pk, qu_pj, qu_ps, qu_pi]; exact hW.1 q
    · by_cases e : t = i
      · subst e
        left
        refine ⟨?_, ?_, ?_, ?_, qu_ps, ?_, ?_, fun j hj => absurd hj (Nat.not_lt_zero _), fun j hj => ?_, fun j hj => ?_⟩
        · rw [s6 50 (by decide), g3 50 (by decide)]; exact qu_ps
        · simp (disch := first | omega | decide) only [qu_pk, qu_pj, qu_ps, qu_pi]
        · simp (disch := first | omega | decide) only [qu_pk, qu_pj, qu_ps, qu_pi]
        · simp (disch := first | omega | decide) only [qu_pk, qu_pj, qu_ps, qu_pi]
          rw [s5 14 (by decide)]; exact a11
        · simp (disch := first | omega | decide) only [qu_pk, qu_pj, qu_ps, qu_pi]
          rfl
        · simp (disch := first | omega | decide) only [qu_pk, qu_pj, qu_ps, qu_pi]
          rfl
        · show x4 18 t j = if j < 4 then y4 37 0 (4 * t + j) else 0
          rw [if_pos hj, s5 18 (by decide), s6 37 (by decide), g4 j hj, e4.2.2.2.2.1 j hj]
          exact a15.2.2.2.1 j hj
        · show x4 16 (6 * t + j) 2 = if j < 6 then y4 36 0 (6 * t + j) else 0
          rw [if_pos hj, s5 16 (by decide), s7 j hj, g3 59 (by decide)]
          show _ = y1 59 0 j
          rw [e4.2.2.2.2.2 j hj]
          exact a15.2.2.2.2 j hj
      · refine qa_Jx (x := x4) (fun f _ => ?_) ?_ (fun j => rfl) (fun j => rfl) (fun j hj => rfl) (hJ t ht e)
        · simp (disch := first | omega | decide) only [qu_pk, qu_pj, qu_ps, qu_pi]
        · simp (disch := first | omega | decide) only [qu_pk, qu_pj, qu_ps, qu_pi]
  · refine qfr_up (by decide) (qfr_up (by decide) (qfr_up (by decide) (qfr_up (by decide) (qfr_up (by decide) (qfr_m ?_ s5)))))
    intro k hk
    simp only [List.mem_cons, List.not_mem_nil, or_false] at hk ⊢
    omega
  · intro k hk
    simp only [List.mem_cons, List.not_mem_nil, or_false] at hk
    rw [s6 k (by simp only [List.mem_cons, List.not_mem_nil, or_false]; omega), g3 k (by simp only [List.mem_cons, List.not_mem_nil, or_false]; omega)]
    funext e f
    rw [qu_pk (by omega), e5 k e f (by omega) (by omega) (by omega) (by omega)]
  · rw [s6 50 (by decide), g3 50 (by decide)]; exact qu_ps
  · rw [s6 50 (by decide), g3 50 (by decide), qu_pj hti, e5 50 0 t (by omega) (by omega) (by omega) (by omega)]
  · simp (disch := first | omega | decide) only [qu_pk, qu_pj, qu_ps, qu_pi]
    rw [s5 14 (by decide)]
