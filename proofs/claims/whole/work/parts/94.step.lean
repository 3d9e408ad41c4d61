/-! pick and step -/
theorem qo11 : qo_op11 qR := by
  rintro s a1 ⟨r, T, B, c, n, h⟩
  have l0 : (0:Int32).toInt = 0 := rfl; have l1 : (1:Int32).toInt = 1 := rfl; have lm : (-1:Int32).toInt = -1 := rfl; have l3 : (3:Int32).toInt = 3 := rfl; have l4 : (4:Int32).toInt = 4 := rfl; have l5 : (5:Int32).toInt = 5 := rfl; have l6 : (6:Int32).toInt = 6 := rfl; have l7 : (7:Int32).toInt = 7 := rfl; have l8 : (8:Int32).toInt = 8 := rfl; have l15 : (15:Int32).toInt = 15 := rfl; have l16 : (16:Int32).toInt = 16 := rfl; have l32 : (32:Int32).toInt = 32 := rfl
  by_cases h1 : 0 ≤ a1.toInt ∧ a1.toInt < 8
  · obtain ⟨i, hi, rfl⟩ := qv_ex (N := 8) h1.1 h1.2
    have ti := qv_tI i (by omega)
    have h16 := qu_16 i s
    by_cases ho : 0 < (s 14 i 9).toInt
    · obtain ⟨x', b, he, hq, hF⟩ := qa_95 h hi ho
      have hq1 : qa s (qp_up x' 30 0 0 0) r T B c n := by
        refine qa_cg (x := s) (y := qp_up s 30 0 0 0) (fun k hk => rfl) (fun k hk => ?_) h
        funext e f
        unfold qp_up
        rw [hF k hk]
      have h160 := qu_160 hi (hq1.2.2.2.2.2.2.2.2.2.1 i hi)
      rw [decide_eq_true ho] at h16 h160
      refine ⟨1, qp_up (qp_up x' 30 0 0 0) 53 0 i ((qp_up x' 30 0 0 0) 53 0 i + 1), ⟨r, T, B, c, n, ?_⟩, Or.inl ⟨(1, x'), ?_, ?_, rfl, rfl⟩⟩
      · refine qa_cg (x := x') (y := qp_up (qp_up s 53 0 i (s 53 0 i + 1)) 30 0 0 0) (fun k hk => ?_) (fun k hk => ?_) hq
        · funext e f
          unfold qp_up
          rw [if_neg (by omega), if_neg (by omega)]
        · funext e f
          have : (qp_up x' 30 0 0 0) 53 0 i = s 53 0 i := by rw [qu_pk (by decide), hF 53 (by decide)]
          rw [this]
          unfold qp_up
          by_cases e1 : k = 53 ∧ e = 0 ∧ f = i
          · rw [if_pos e1, if_neg (by omega), if_pos e1]
          · rw [if_neg e1, if_neg e1, hF k hk]
      · simp (disch := first | omega | assumption | decide) only [qf94, qu_ltT, qu_ltF, qu_gtT, qu_gtF, qu_geT, qu_geF, qu_leT, qu_leF, qu_eqT, qu_eqF, qu_neT, qu_neF, qu_inT, qu_24T, qu_24F, qu_116T, qu_116F, qu_13T, qu_13F, qu_25T, qu_25F, qu_26T, qu_26F, qu_117a, qu_117b, qu_117c, qu_117d, qu_10F, qu_00T, qu_n10, qu_n00, Option.bind_some, cond_true, cond_false, if_true, qv_tN, h16, qv_eq0, he, Bool.not_true]
        rfl
      · simp (disch := first | omega | assumption | decide) only [qf159, qf159_16, qu_ltT, qu_ltF, qu_gtT, qu_gtF, qu_geT, qu_geF, qu_leT, qu_leF, qu_eqT, qu_eqF, qu_neT, qu_neF, qu_inT, qu_24T, qu_24F, qu_116T, qu_116F, qu_13T, qu_13F, qu_25T, qu_25F, qu_26T, qu_26F, qu_117a, qu_117b, qu_117c, qu_117d, qu_10F, qu_00T, qu_n10, qu_n00, Option.bind_some, cond_true, cond_false, if_true, qv_tN, h160, qv_ne0, qu_ps]
    · rw [decide_eq_false ho] at h16
      have h160 := qu_160 (x := s) (y := qp_up s 30 0 0 0) hi (h.2.2.2.2.2.2.2.2.2.1 i hi)
      rw [decide_eq_false ho] at h160
      refine ⟨0, qp_up s 30 0 0 0, qR_thr 0 h, Or.inl ⟨(0, s), ?_, ?_, rfl, rfl⟩⟩
      · simp (disch := first | omega | assumption | decide) only [qf94, qu_ltT, qu_ltF, qu_gtT, qu_gtF, qu_geT, qu_geF, qu_leT, qu_leF, qu_eqT, qu_eqF, qu_neT, qu_neF, qu_inT, qu_24T, qu_24F, qu_116T, qu_116F, qu_13T, qu_13F, qu_25T, qu_25F, qu_26T, qu_26F, qu_117a, qu_117b, qu_117c, qu_117d, qu_10F, qu_00T, qu_n10, qu_n00, Option.bind_some, cond_true, cond_false, if_true, qv_tN, h16, qv_eq0, Bool.not_false]
        rfl
      · simp (disch := first | omega | assumption | decide) only [qf159, qf159_16, qu_ltT, qu_ltF, qu_gtT, qu_gtF, qu_geT, qu_geF, qu_leT, qu_leF, qu_eqT, qu_eqF, qu_neT, qu_neF, qu_inT, qu_24T, qu_24F, qu_116T, qu_116F, qu_13T, qu_13F, qu_25T, qu_25F, qu_26T, qu_26F, qu_117a, qu_117b, qu_117c, qu_117d, qu_10F, qu_00T, qu_n10, qu_n00, Option.bind_some, cond_true, cond_false, if_true, qv_tN, h160, qv_ne0, qu_ps]
  · refine ⟨0, _, qR_thr 1 h, Or.inr ⟨?_, ?_, rfl⟩⟩
    · simp (disch := first | omega | assumption | decide) only [qf94, qu_ltT, qu_ltF, qu_gtT, qu_gtF, qu_geT, qu_geF, qu_leT, qu_leF, qu_eqT, qu_eqF, qu_neT, qu_neF, qu_inT, qu_24T, qu_24F, qu_116T, qu_116F, qu_13T, qu_13F, qu_25T, qu_25F, qu_26T, qu_26F, qu_117a, qu_117b, qu_117c, qu_117d, qu_10F, qu_00T, qu_n10, qu_n00, Option.bind_some, cond_true, cond_false, if_true, qv_tN]
    · simp (disch := first | omega | assumption | decide) only [qf159, qf159_16, qu_ltT, qu_ltF, qu_gtT, qu_gtF, qu_geT, qu_geF, qu_leT, qu_leF, qu_eqT, qu_eqF, qu_neT, qu_neF, qu_inT, qu_24T, qu_24F, qu_116T, qu_116F, qu_13T, qu_13F, qu_25T, qu_25F, qu_26T, qu_26F, qu_117a, qu_117b, qu_117c, qu_117d, qu_10F, qu_00T, qu_n10, qu_n00, Option.bind_some, cond_true, cond_false, if_true, qv_tN, qu_ps]
/-- two loops side by side, that may end before -/
theorem qv_loop3 {α β ρ σ : Type} (f : Nat → Nat → α → Option ρ) (g : Nat → Nat → β → Option σ) (N : Nat) (I : Nat → α → β → Prop) (Q : ρ → σ → Prop)
    (hs : ∀ k x y, k < N → I k x y → (∃ r t, (∀ n, f (n + 1) k x = some r) ∧ (∀ n, g (n + 1) k y = some t) ∧ Q r t) ∨ ∃ x' y', (∀ n, f (n + 1) k x = f n (k + 1) x') ∧ (∀ n, g (n + 1) k y = g n (k + 1) y') ∧ I (k + 1) x' y')
    (he : ∀ x y, I N x y → ∃ r t, (∀ n, f (n + 1) N x = some r) ∧ (∀ n, g (n + 1) N y = some t) ∧ Q r t) :
    ∀ n n' k x y, k ≤ N → N < n + k → N < n' + k → I k x y → ∃ r t, f n k x = some r ∧ g n' k y = some t ∧ Q r t := by
  intro n
  induction n with
  | zero => intro n' k x y h1 h2; omega
  | succ n ih =>
    intro n' k x y h1 h2 h3 hI
    obtain ⟨n', rfl⟩ : ∃ z, n' = z + 1 := ⟨n' - 1, by omega⟩
    by_cases hk : k = N
    · subst hk
      obtain ⟨r, t, e1, e2, hq⟩ := he x y hI
      exact ⟨r, t, e1 n, e2 n', hq⟩
    · rcases hs k x y (by omega) hI with ⟨r, t, e1, e2, hq⟩ | ⟨x', y', e1, e2, hI'⟩
      · exact ⟨r, t, e1 n, e2 n', hq⟩
      · rw [e1 n, e2 n']
        exact ih n' (k + 1) x' y' (by omega) (by omega) (by omega) hI'
/-- the most urgent job -/
theorem qa_107 {x y : qp_S} (hJ : ∀ i, i < 8 → qa_J x y i) : ∃ z, qf107 x = some z ∧ qf162 y = some z ∧ (z = -1 ∨ ∃ i, i < 8 ∧ z = Int32.ofNat i ∧ 0 < (x 14 i 9).toInt) := by
  have l0 : (0:Int32).toInt = 0 := rfl; have l1 : (1:Int32).toInt = 1 := rfl; have lm : (-1:Int32).toInt = -1 := rfl; have l3 : (3:Int32).toInt = 3 := rfl; have l4 : (4:Int32).toInt = 4 := rfl; have l5 : (5:Int32).toInt = 5 := rfl; have l6 : (6:Int32).toInt = 6 := rfl; have l7 : (7:Int32).toInt = 7 := rfl; have l8 : (8:Int32).toInt = 8 := rfl; have l15 : (15:Int32).toInt = 15 := rfl; have l16 : (16:Int32).toInt = 16 := rfl; have l32 : (32:Int32).toInt = 32 := rfl
  have hdue : ∀ i, i < 8 → 0 < (x 14 i 9).toInt → x 14 i 3 = y 52 0 i := by
    intro i hi ho
    rcases hJ i hi with hj | hj
    · rw [hj.2.2.2.1] at ho; exact absurd ho (by decide)
    · obtain ⟨a1, a, t, b, a2, a3, a4, a5, a6, a7, a8, a9, a10, a11, a12, a13, a14, a15⟩ := hj
      exact a14
  obtain ⟨r, t, e1, e2, e3, e4⟩ := qv_loop3 (fun n k a => qf107_4 n a (Int32.ofNat k) x) (fun n k a => qf162_4 n a (Int32.ofNat k) y) 8 (fun _ a b => a = b ∧ (a = -1 ∨ ∃ i, i < 8 ∧ a = Int32.ofNat i ∧ 0 < (x 14 i 9).toInt))
    (fun r t => r = t ∧ (r = -1 ∨ ∃ i, i < 8 ∧ r = Int32.ofNat i ∧ 0 < (x 14 i 9).toInt))
    (by
      rintro k a b hk ⟨e, hA⟩
      subst e
      have tk := qv_tI k (by omega)
      have h1 := qu_16 k x
      have h2 := qu_160 hk (hJ k hk)
      right
      by_cases ho : 0 < (x 14 k 9).toInt
      · rw [decide_eq_true ho] at h1 h2
        rcases hA with hA | ⟨i, hi, rfl, hoi⟩
        · subst hA
          refine ⟨Int32.ofNat k, Int32.ofNat k, fun n => ?_, fun n => ?_, rfl, Or.inr ⟨k, hk, rfl, ho⟩⟩
          · simp (disch := first | omega | assumption | decide) only [qf107_4, qv_g4, qv_g6, qv_g8, qv_g16, qv_g32, qv_g48, qv_e4, qv_e6, qv_e8, qv_e16, qv_e32, qv_e48, qv_inT, qv_tN, qv_s1, cond_false, cond_true, if_true, h1, Option.bind_some, qv_eq0, Bool.not_true, qu_ltT, qu_ltF, qu_gtT, qu_gtF, qu_geT, qu_geF, qu_leT, qu_leF, qu_eqT, qu_eqF, qu_neT, qu_neF, qu_inT, qu_24T, qu_24F, qu_116T, qu_116F, qu_13T, qu_13F, qu_25T, qu_25F, qu_26T, qu_26F, qu_117a, qu_117b, qu_117c, qu_117d, qu_10F, qu_00T, qu_n10, qu_n00, Option.bind_some, cond_true, cond_false, if_true, qv_tN]
          · simp (disch := first | omega | assumption | decide) only [qf162_4, qv_g4, qv_g6, qv_g8, qv_g16, qv_g32, qv_g48, qv_e4, qv_e6, qv_e8, qv_e16, qv_e32, qv_e48, qv_inT, qv_tN, qv_s1, cond_false, cond_true, if_true, h2, Option.bind_some, qv_eq0, Bool.not_true, qu_ltT, qu_ltF, qu_gtT, qu_gtF, qu_geT, qu_geF, qu_leT, qu_leF, qu_eqT, qu_eqF, qu_neT, qu_neF, qu_inT, qu_24T, qu_24F, qu_116T, qu_116F, qu_13T, qu_13F, qu_25T, qu_25F, qu_26T, qu_26F, qu_117a, qu_117b, qu_117c, qu_117d, qu_10F, qu_00T, qu_n10, qu_n00, Option.bind_some, cond_true, cond_false, if_true, qv_tN]
        · have ti := qv_tI i (by omega)
          have d1 := hdue k hk ho
          have d2 := hdue i hi hoi
          by_cases hlt : (y 52 0 i).toInt ≤ (y 52 0 k).toInt
          · refine ⟨Int32.ofNat i, Int32.ofNat i, fun n => ?_, fun n => ?_, rfl, Or.inr ⟨i, hi, rfl, hoi⟩⟩
            · simp (disch := first | omega | assumption | decide) only [qf107_4, qv_g4, qv_g6, qv_g8, qv_g16, qv_g32, qv_g48, qv_e4, qv_e6, qv_e8, qv_e16, qv_e32, qv_e48, qv_inT, qv_tN, qv_s1, cond_false, cond_true, if_true, h1, Option.bind_some, qv_eq0, Bool.not_true, d1, d2, qu_ltT, qu_ltF, qu_gtT, qu_gtF, qu_geT, qu_geF, qu_leT, qu_leF, qu_eqT, qu_eqF, qu_neT, qu_neF, qu_inT, qu_24T, qu_24F, qu_116T, qu_116F, qu_13T, qu_13F, qu_25T, qu_25F, qu_26T, qu_26F, qu_117a, qu_117b, qu_117c, qu_117d, qu_10F, qu_00T, qu_n10, qu_n00, Option.bind_some, cond_true, cond_false, if_true, qv_tN]
            · simp (disch := first | omega | assumption | decide) only [qf162_4, qv_g4, qv_g6, qv_g8, qv_g16, qv_g32, qv_g48, qv_e4, qv_e6, qv_e8, qv_e16, qv_e32, qv_e48, qv_inT, qv_tN, qv_s1, cond_false, cond_true, if_true, h2, Option.bind_some, qv_eq0, Bool.not_true, qu_ltT, qu_ltF, qu_gtT, qu_gtF, qu_geT, qu_geF, qu_leT, qu_leF, qu_eqT, qu_eqF, qu_neT, qu_neF, qu_inT, qu_24T, qu_24F, qu_116T, qu_116F, qu_13T, qu_13F, qu_25T, qu_25F, qu_26T, qu_26F, qu_117a, qu_117b, qu_117c, qu_117d, qu_10F, qu_00T, qu_n10, qu_n00, Option.bind_some, cond_true, cond_false, if_true, qv_tN]
          · refine ⟨Int32.ofNat k, Int32.ofNat k, fun n => ?_, fun n => ?_, rfl, Or.inr ⟨k, hk, rfl, ho⟩⟩
            · simp (disch := first | omega | assumption | decide) only [qf107_4, qv_g4, qv_g6, qv_g8, qv_g16, qv_g32, qv_g48, qv_e4, qv_e6, qv_e8, qv_e16, qv_e32, qv_e48, qv_inT, qv_tN, qv_s1, cond_false, cond_true, if_true, h1, Option.bind_some, qv_eq0, Bool.not_true, d1, d2, qu_ltT, qu_ltF, qu_gtT, qu_gtF, qu_geT, qu_geF, qu_leT, qu_leF, qu_eqT, qu_eqF, qu_neT, qu_neF, qu_inT, qu_24T, qu_24F, qu_116T, qu_116F, qu_13T, qu_13F, qu_25T, qu_25F, qu_26T, qu_26F, qu_117a, qu_117b, qu_117c, qu_117d, qu_10F, qu_00T, qu_n10, qu_n00, Option.bind_some, cond_true, cond_false, if_true, qv_tN]
            · simp (disch := first | omega | assumption | decide) only [qf162_4, qv_g4, qv_g6, qv_g8, qv_g16, qv_g32, qv_g48, qv_e4, qv_e6, qv_e8, qv_e16, qv_e32, qv_e48, qv_inT, qv_tN, qv_s1, cond_false, cond_true, if_true, h2, Option.bind_some, qv_eq0, Bool.not_true, qu_ltT, qu_ltF, qu_gtT, qu_gtF, qu_geT, qu_geF, qu_leT, qu_leF, qu_eqT, qu_eqF, qu_neT, qu_neF, qu_inT, qu_24T, qu_24F, qu_116T, qu_116F, qu_13T, qu_13F, qu_25T, qu_25F, qu_26T, qu_26F, qu_117a, qu_117b, qu_117c, qu_117d, qu_10F, qu_00T, qu_n10, qu_n00, Option.bind_some, cond_true, cond_false, if_true, qv_tN]
      · rw [decide_eq_false ho] at h1 h2
        refine ⟨a, a, fun n => ?_, fun n => ?_, rfl, hA⟩
        · simp (disch := first | omega | assumption | decide) only [qf107_4, qv_g4, qv_g6, qv_g8, qv_g16, qv_g32, qv_g48, qv_e4, qv_e6, qv_e8, qv_e16, qv_e32, qv_e48, qv_inT, qv_tN, qv_s1, cond_false, cond_true, if_true, h1, Option.bind_some, qv_eq0, Bool.not_false]
        · simp (disch := first | omega | assumption | decide) only [qf162_4, qv_g4, qv_g6, qv_g8, qv_g16, qv_g32, qv_g48, qv_e4, qv_e6, qv_e8, qv_e16, qv_e32, qv_e48, qv_inT, qv_tN, qv_s1, cond_false, cond_true, if_true, h2, Option.bind_some, qv_eq0, Bool.not_false])
    (by
      rintro a b ⟨e, hA⟩
      subst e
      refine ⟨a, a, fun n => ?_, fun n => ?_, rfl, hA⟩
      · simp (disch := first | omega | assumption | decide) only [qf107_4, qv_g4, qv_g6, qv_g8, qv_g16, qv_g32, qv_g48, qv_e4, qv_e6, qv_e8, qv_e16, qv_e32, qv_e48, qv_inT, qv_tN, qv_s1, cond_false, cond_true, if_true]
      · simp (disch := first | omega | assumption | decide) only [qf162_4, qv_g4, qv_g6, qv_g8, qv_g16, qv_g32, qv_g48, qv_e4, qv_e6, qv_e8, qv_e16, qv_e32, qv_e48, qv_inT, qv_tN, qv_s1, cond_false, cond_true, if_true])
    4096 4096 0 (-1) (-1) (by decide) (by decide) (by decide) ⟨rfl, Or.inl rfl⟩
  subst e3
  exact ⟨r, e1, e2, e4⟩
theorem qa_105 {x y : qp_S} {T B c n N : Nat} (hN : N ≤ 2000) (h : qa x y true T B c n) (h0 : y 30 0 0 = 0) : ∃ r t : Int32 × qp_S, qf105_25 4096 (Int32.ofNat N) (Int32.ofNat 0) x = some r ∧ qf161_33 4096 (Int32.ofNat N) (Int32.ofNat 0) y = some t ∧ r.1 = t.1 ∧ qa r.2 t.2 true T B c n ∧ t.2 30 0 0 = 0 ∧ (∀ k, 30 ≤ k → r.2 k = x k) ∧ ∀ k, k < 30 → t.2 k = y k := by
  have l0 : (0:Int32).toInt = 0 := rfl; have l1 : (1:Int32).toInt = 1 := rfl; have lm : (-1:Int32).toInt = -1 := rfl; have l3 : (3:Int32).toInt = 3 := rfl; have l4 : (4:Int32).toInt = 4 := rfl; have l5 : (5:Int32).toInt = 5 := rfl; have l6 : (6:Int32).toInt = 6 := rfl; have l7 : (7:Int32).toInt = 7 := rfl; have l8 : (8:Int32).toInt = 8 := rfl; have l15 : (15:Int32).toInt = 15 := rfl; have l16 : (16:Int32).toInt = 16 := rfl; have l32 : (32:Int32).toInt = 32 := rfl
  have tN := qv_tI N (by omega)
  refine qv_loop3 (fun n k x => qf105_25 n (Int32.ofNat N) (Int32.ofNat k) x) (fun n k y => qf161_33 n (Int32.ofNat N) (Int32.ofNat k) y) N (fun _ x1 y1 => qa x1 y1 true T B c n ∧ y1 30 0 0 = 0 ∧ (∀ k, 30 ≤ k → x1 k = x k) ∧ ∀ k, k < 30 → y1 k = y k)
    (fun r t => r.1 = t.1 ∧ qa r.2 t.2 true T B c n ∧ t.2 30 0 0 = 0 ∧ (∀ k, 30 ≤ k → r.2 k = x k) ∧ ∀ k, k < 30 → t.2 k = y k) ?_ ?_ 4096 4096 0 x y (by omega) (by omega) (by omega) ⟨h, h0, fun _ _ => rfl, fun _ _ => rfl⟩
  · rintro k x1 y1 hk ⟨g1, g2, g3, g4⟩
    have tk := qv_tI k (by omega)
    obtain ⟨z, z1, z2, z3⟩ := qa_107 g1.2.2.2.2.2.2.2.2.2.1
    rcases z3 with z3 | ⟨i, hi, z3, ho⟩
    · left
      subst z3
      refine ⟨(Int32.ofNat k, x1), (Int32.ofNat k, y1), fun n => ?_, fun n => ?_, rfl, g1, g2, g3, g4⟩
      · simp (disch := first | omega | assumption | decide) only [qf105_25, z1, qu_ltT, qu_ltF, qu_gtT, qu_gtF, qu_geT, qu_geF, qu_leT, qu_leF, qu_eqT, qu_eqF, qu_neT, qu_neF, qu_inT, qu_24T, qu_24F, qu_116T, qu_116F, qu_13T, qu_13F, qu_25T, qu_25F, qu_26T, qu_26F, qu_117a, qu_117b, qu_117c, qu_117d, qu_10F, qu_00T, qu_n10, qu_n00, Option.bind_some, cond_true, cond_false, if_true, qv_tN]
      · simp (disch := first | omega | assumption | decide) only [qf161_33, z2, g2, qu_ltT, qu_ltF, qu_gtT, qu_gtF, qu_geT, qu_geF, qu_leT, qu_leF, qu_eqT, qu_eqF, qu_neT, qu_neF, qu_inT, qu_24T, qu_24F, qu_116T, qu_116F, qu_13T, qu_13F, qu_25T, qu_25F, qu_26T, qu_26F, qu_117a, qu_117b, qu_117c, qu_117d, qu_10F, qu_00T, qu_n10, qu_n00, Option.bind_some, cond_true, cond_false, if_true, qv_tN]
    · right
      subst z3
      have ti := qv_tI i (by omega)
      obtain ⟨x', b, he, hq, hF⟩ := qa_95 g1 hi ho
      refine ⟨x', qp_up y1 53 0 i (y1 53 0 i + 1), fun n => ?_, fun n => ?_, hq, g2, fun k hk => (hF k hk).trans (g3 k hk), fun k hk => ?_⟩
      · simp (disch := first | omega | assumption | decide) only [qf105_25, z1, he, qu_ltT, qu_ltF, qu_gtT, qu_gtF, qu_geT, qu_geF, qu_leT, qu_leF, qu_eqT, qu_eqF, qu_neT, qu_neF, qu_inT, qu_24T, qu_24F, qu_116T, qu_116F, qu_13T, qu_13F, qu_25T, qu_25F, qu_26T, qu_26F, qu_117a, qu_117b, qu_117c, qu_117d, qu_10F, qu_00T, qu_n10, qu_n00, Option.bind_some, cond_true, cond_false, if_true, qv_tN, qv_s1]
      · simp (disch := first | omega | assumption | decide) only [qf161_33, z2, g2, qu_ltT, qu_ltF, qu_gtT, qu_gtF, qu_geT, qu_geF, qu_leT, qu_leF, qu_eqT, qu_eqF, qu_neT, qu_neF, qu_inT, qu_24T, qu_24F, qu_116T, qu_116F, qu_13T, qu_13F, qu_25T, qu_25F, qu_26T, qu_26F, qu_117a, qu_117b, qu_117c, qu_117d, qu_10F, qu_00T, qu_n10, qu_n00, Option.bind_some, cond_true, cond_false, if_true, qv_tN, qv_s1]
      · rw [← g4 k hk]; funext e f; exact qu_pk (by omega)
  · rintro x1 y1 ⟨g1, g2, g3, g4⟩
    refine ⟨(Int32.ofNat N, x1), (Int32.ofNat N, y1), fun n => ?_, fun n => ?_, rfl, g1, g2, g3, g4⟩
    · simp (disch := first | omega | assumption | decide) only [qf105_25, qu_ltT, qu_ltF, qu_gtT, qu_gtF, qu_geT, qu_geF, qu_leT, qu_leF, qu_eqT, qu_eqF, qu_neT, qu_neF, qu_inT, qu_24T, qu_24F, qu_116T, qu_116F, qu_13T, qu_13F, qu_25T, qu_25F, qu_26T, qu_26F, qu_117a, qu_117b, qu_117c, qu_117d, qu_10F, qu_00T, qu_n10, qu_n00, Option.bind_some, cond_true, cond_false, if_true, qv_tN]
    · simp (disch := first | omega | assumption | decide) only [qf161_33, g2, qu_ltT, qu_ltF, qu_gtT, qu_gtF, qu_geT, qu_geF, qu_leT, qu_leF, qu_eqT, qu_eqF, qu_neT, qu_neF, qu_inT, qu_24T, qu_24F, qu_116T, qu_116F, qu_13T, qu_13F, qu_25T, qu_25F, qu_26T, qu_26F, qu_117a, qu_117b, qu_117c, qu_117d, qu_10F, qu_00T, qu_n10, qu_n00, Option.bind_some, cond_true, cond_false, if_true, qv_tN]
theorem qo12 : qo_op12 qR := by
  rintro s a1 ⟨r, T, B, c, n, h⟩
  have l0 : (0:Int32).toInt = 0 := rfl; have l1 : (1:Int32).toInt = 1 := rfl; have lm : (-1:Int32).toInt = -1 := rfl; have l3 : (3:Int32).toInt = 3 := rfl; have l4 : (4:Int32).toInt = 4 := rfl; have l5 : (5:Int32).toInt = 5 := rfl; have l6 : (6:Int32).toInt = 6 := rfl; have l7 : (7:Int32).toInt = 7 := rfl; have l8 : (8:Int32).toInt = 8 := rfl; have l15 : (15:Int32).toInt = 15 := rfl; have l16 : (16:Int32).toInt = 16 := rfl; have l32 : (32:Int32).toInt = 32 := rfl; have l2000 : (2000:Int32).toInt = 2000 := rfl
  have k1 := h.2.2.2.2.2.2.2.2.1.1; have k2 := h.2.2.2.2.2.2.2.2.1.2.1
  by_cases h1 : 0 ≤ a1.toInt ∧ a1.toInt ≤ 2000
  · obtain ⟨N, hN, rfl⟩ := qv_ex (N := 2001) h1.1 (by omega)
    have tN := qv_tI N (by omega)
    cases r with
    | true =>
      obtain ⟨r1, t1, e1, -, -, -, -, hF, -⟩ := qa_105 (N := N) (x := s) (y := qp_up s 30 0 0 0) (by omega) h rfl
      have hq1 : qa s (qp_up r1.2 30 0 0 0) true T B c n := by
        refine qa_cg (x := s) (y := qp_up s 30 0 0 0) (fun k hk => rfl) (fun k hk => ?_) h
        funext e f
        unfold qp_up
        rw [hF k hk]
      obtain ⟨r2, t2, e3, e4, e5, e6, e7, e8, e9⟩ := qa_105 (N := N) (x := s) (y := qp_up r1.2 30 0 0 0) (by omega) hq1 rfl
      obtain rfl : r1 = r2 := Option.some.inj (e1.symm.trans e3)
      have k3 : r1.2 30 0 20 = qv_b true := by rw [hF 30 (by decide)]; exact k2
      refine ⟨t2.1, t2.2, ⟨true, T, B, c, n, ?_⟩, Or.inl ⟨r1, ?_, ?_, e7, e5⟩⟩
      · refine qa_cg (fun k hk => ?_) (fun k hk => rfl) e6
        rw [e9 k hk]
        funext e f
        exact qu_pk (by omega)
      · have k4 : qf106 s = some (.inr 0) := by rw [qv106, k1]; rfl
        unfold qf105 qf105_16
        simp (disch := first | omega | assumption | decide) only [qu_ltT, qu_ltF, qu_gtT, qu_gtF, qu_geT, qu_geF, qu_leT, qu_leF, qu_eqT, qu_eqF, qu_neT, qu_neF, qu_inT, qu_24T, qu_24F, qu_116T, qu_116F, qu_13T, qu_13F, qu_25T, qu_25F, qu_26T, qu_26F, qu_117a, qu_117b, qu_117c, qu_117d, qu_10F, qu_00T, qu_n10, qu_n00, Option.bind_some, cond_true, cond_false, if_true, qv_tN, k4]
        rw [show (0 : Int32) = Int32.ofNat 0 from rfl, e1]
        rfl
      · unfold qf161
        simp (disch := first | omega | assumption | decide) only [qu_ltT, qu_ltF, qu_gtT, qu_gtF, qu_geT, qu_geF, qu_leT, qu_leF, qu_eqT, qu_eqF, qu_neT, qu_neF, qu_inT, qu_24T, qu_24F, qu_116T, qu_116F, qu_13T, qu_13F, qu_25T, qu_25F, qu_26T, qu_26F, qu_117a, qu_117b, qu_117c, qu_117d, qu_10F, qu_00T, qu_n10, qu_n00, Option.bind_some, cond_true, cond_false, if_true, qv_tN, k3, qv_ne0]
        exact e4
    | false =>
      refine ⟨0, _, qR_thr 2 h, Or.inr (Or.inr ⟨?_, ?_, rfl⟩)⟩
      · have k4 : qf106 s = some (.inl 72) := by rw [qv106, k1]; rfl
        unfold qf105 qf105_16
        simp (disch := first | omega | assumption | decide) only [qu_ltT, qu_ltF, qu_gtT, qu_gtF, qu_geT, qu_geF, qu_leT, qu_leF, qu_eqT, qu_eqF, qu_neT, qu_neF, qu_inT, qu_24T, qu_24F, qu_116T, qu_116F, qu_13T, qu_13F, qu_25T, qu_25F, qu_26T, qu_26F, qu_117a, qu_117b, qu_117c, qu_117d, qu_10F, qu_00T, qu_n10, qu_n00, Option.bind_some, cond_true, cond_false, if_true, qv_tN, k4]
      · unfold qf161
        simp (disch := first | omega | assumption | decide) only [qu_ltT, qu_ltF, qu_gtT, qu_gtF, qu_geT, qu_geF, qu_leT, qu_leF, qu_eqT, qu_eqF, qu_neT, qu_neF, qu_inT, qu_24T, qu_24F, qu_116T, qu_116F, qu_13T, qu_13F, qu_25T, qu_25F, qu_26T, qu_26F, qu_117a, qu_117b, qu_117c, qu_117d, qu_10F, qu_00T, qu_n10, qu_n00, Option.bind_some, cond_true, cond_false, if_true, qv_tN, k2, qv_ne0]
        rfl
  · refine ⟨0, _, qR_thr 1 h, Or.inr (Or.inl ⟨?_, ?_, rfl⟩)⟩
    · unfold qf105 qf105_15 qf105_16
      by_cases h2 : a1.toInt < 0
      · simp (disch := first | omega | assumption | decide) only [qu_ltT, qu_ltF, qu_gtT, qu_gtF, qu_geT, qu_geF, qu_leT, qu_leF, qu_eqT, qu_eqF, qu_neT, qu_neF, qu_inT, qu_24T, qu_24F, qu_116T, qu_116F, qu_13T, qu_13F, qu_25T, qu_25F, qu_26T, qu_26F, qu_117a, qu_117b, qu_117c, qu_117d, qu_10F, qu_00T, qu_n10, qu_n00, Option.bind_some, cond_true, cond_false, if_true, qv_tN]
      · simp (disch := first | omega | assumption | decide) only [qu_ltT, qu_ltF, qu_gtT, qu_gtF, qu_geT, qu_geF, qu_leT, qu_leF, qu_eqT, qu_eqF, qu_neT, qu_neF, qu_inT, qu_24T, qu_24F, qu_116T, qu_116F, qu_13T, qu_13F, qu_25T, qu_25F, qu_26T, qu_26F, qu_117a, qu_117b, qu_117c, qu_117d, qu_10F, qu_00T, qu_n10, qu_n00, Option.bind_some, cond_true, cond_false, if_true, qv_tN]
    · unfold qf161
      simp (disch := first | omega | assumption | decide) only [qu_ltT, qu_ltF, qu_gtT, qu_gtF, qu_geT, qu_geF, qu_leT, qu_leF, qu_eqT, qu_eqF, qu_neT, qu_neF, qu_inT, qu_24T, qu_24F, qu_116T, qu_116F, qu_13T, qu_13F, qu_25T, qu_25F, qu_26T, qu_26F, qu_117a, qu_117b, qu_117c, qu_117d, qu_10F, qu_00T, qu_n10, qu_n00, Option.bind_some, cond_true, cond_false, if_true, qv_tN]
      rfl
