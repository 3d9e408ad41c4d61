/-! open jobs; about -/
theorem qu_16 (i : Nat) (x : qp_S) : qf16 i x = some (qv_b (decide (0 < (x 14 i 9).toInt))) := by
  have l0 : (0:Int32).toInt = 0 := rfl; have l1 : (1:Int32).toInt = 1 := rfl; have lm : (-1:Int32).toInt = -1 := rfl; have l3 : (3:Int32).toInt = 3 := rfl; have l4 : (4:Int32).toInt = 4 := rfl; have l5 : (5:Int32).toInt = 5 := rfl; have l6 : (6:Int32).toInt = 6 := rfl; have l7 : (7:Int32).toInt = 7 := rfl; have l8 : (8:Int32).toInt = 8 := rfl; have l15 : (15:Int32).toInt = 15 := rfl; have l16 : (16:Int32).toInt = 16 := rfl; have l32 : (32:Int32).toInt = 32 := rfl
  by_cases h : 0 < (x 14 i 9).toInt
  · simp (disch := first | omega | assumption | decide) only [qf16, qu_ltT, qu_ltF, qu_gtT, qu_gtF, qu_geT, qu_geF, qu_leT, qu_leF, qu_eqT, qu_eqF, qu_neT, qu_neF, qu_inT, qu_24T, qu_24F, qu_116T, qu_116F, qu_13T, qu_13F, qu_25T, qu_25F, qu_26T, qu_26F, qu_117a, qu_117b, qu_117c, qu_117d, qu_10F, qu_00T, qu_n10, qu_n00, Option.bind_some, cond_true, cond_false, if_true, qv_tN]
    rw [decide_eq_true h]; rfl
  · simp (disch := first | omega | assumption | decide) only [qf16, qu_ltT, qu_ltF, qu_gtT, qu_gtF, qu_geT, qu_geF, qu_leT, qu_leF, qu_eqT, qu_eqF, qu_neT, qu_neF, qu_inT, qu_24T, qu_24F, qu_116T, qu_116F, qu_13T, qu_13F, qu_25T, qu_25F, qu_26T, qu_26F, qu_117a, qu_117b, qu_117c, qu_117d, qu_10F, qu_00T, qu_n10, qu_n00, Option.bind_some, cond_true, cond_false, if_true, qv_tN]
    rw [decide_eq_false h]; rfl
theorem qu_160 {x y : qp_S} {i : Nat} (hi : i < 8) (h : qa_J x y i) : qf160 (Int32.ofNat i) y = some (qv_b (decide (0 < (x 14 i 9).toInt))) := by
  have l0 : (0:Int32).toInt = 0 := rfl; have l1 : (1:Int32).toInt = 1 := rfl; have lm : (-1:Int32).toInt = -1 := rfl; have l3 : (3:Int32).toInt = 3 := rfl; have l4 : (4:Int32).toInt = 4 := rfl; have l5 : (5:Int32).toInt = 5 := rfl; have l6 : (6:Int32).toInt = 6 := rfl; have l7 : (7:Int32).toInt = 7 := rfl; have l8 : (8:Int32).toInt = 8 := rfl; have l15 : (15:Int32).toInt = 15 := rfl; have l16 : (16:Int32).toInt = 16 := rfl; have l32 : (32:Int32).toInt = 32 := rfl
  have ti := qv_tI i (by omega)
  rcases h with h | h
  · rw [h.2.2.2.1]
    simp (disch := first | omega | assumption | decide) only [qf160, qu_ltT, qu_ltF, qu_gtT, qu_gtF, qu_geT, qu_geF, qu_leT, qu_leF, qu_eqT, qu_eqF, qu_neT, qu_neF, qu_inT, qu_24T, qu_24F, qu_116T, qu_116F, qu_13T, qu_13F, qu_25T, qu_25F, qu_26T, qu_26F, qu_117a, qu_117b, qu_117c, qu_117d, qu_10F, qu_00T, qu_n10, qu_n00, Option.bind_some, cond_true, cond_false, if_true, qv_tN, h.1]
    rfl
  · obtain ⟨e0, a, t, b, e1, hb, e2, e3, h1, h2, -, -, -, e4, -⟩ := h
    rw [e4]
    have ta := qv_tI a (by omega)
    have tt := qv_tI t (by omega)
    have tb := qv_tI (b - a) (by omega)
    by_cases hat : a < t
    · rw [if_pos hat]
      simp (disch := first | omega | assumption | decide) only [qf160, qu_ltT, qu_ltF, qu_gtT, qu_gtF, qu_geT, qu_geF, qu_leT, qu_leF, qu_eqT, qu_eqF, qu_neT, qu_neF, qu_inT, qu_24T, qu_24F, qu_116T, qu_116F, qu_13T, qu_13F, qu_25T, qu_25F, qu_26T, qu_26F, qu_117a, qu_117b, qu_117c, qu_117d, qu_10F, qu_00T, qu_n10, qu_n00, Option.bind_some, cond_true, cond_false, if_true, qv_tN, e0, e2, e3]
      rw [decide_eq_true (by omega)]; rfl
    · rw [if_neg hat]
      simp (disch := first | omega | assumption | decide) only [qf160, qu_ltT, qu_ltF, qu_gtT, qu_gtF, qu_geT, qu_geF, qu_leT, qu_leF, qu_eqT, qu_eqF, qu_neT, qu_neF, qu_inT, qu_24T, qu_24F, qu_116T, qu_116F, qu_13T, qu_13F, qu_25T, qu_25F, qu_26T, qu_26F, qu_117a, qu_117b, qu_117c, qu_117d, qu_10F, qu_00T, qu_n10, qu_n00, Option.bind_some, cond_true, cond_false, if_true, qv_tN, e0, e2, e3]
      rfl
/-- the loop of the reference's about -/
theorem qu_166 {x y : qp_S} (hJ : ∀ i, i < 8 → qa_J x y i) (w : Int32) : ∃ o, qf15 x = some o ∧ qf166_32 4096 w 0 0 y = some (if w = 0 then y 30 0 21 else if w = 1 then y 30 0 22 else if w = 2 then y 30 0 23 else if w = 3 then y 30 0 30 else o, y) := by
  have l0 : (0:Int32).toInt = 0 := rfl; have l1 : (1:Int32).toInt = 1 := rfl; have lm : (-1:Int32).toInt = -1 := rfl; have l3 : (3:Int32).toInt = 3 := rfl; have l4 : (4:Int32).toInt = 4 := rfl; have l5 : (5:Int32).toInt = 5 := rfl; have l6 : (6:Int32).toInt = 6 := rfl; have l7 : (7:Int32).toInt = 7 := rfl; have l8 : (8:Int32).toInt = 8 := rfl; have l15 : (15:Int32).toInt = 15 := rfl; have l16 : (16:Int32).toInt = 16 := rfl; have l32 : (32:Int32).toInt = 32 := rfl
  have := qv_loop2 (fun n k a => qf15_4 n a (Int32.ofNat k) x) (fun n k a => qf166_32 n w a (Int32.ofNat k) y) 8 (fun _ a b => a = b)
    (fun r t => t = (if w = 0 then y 30 0 21 else if w = 1 then y 30 0 22 else if w = 2 then y 30 0 23 else if w = 3 then y 30 0 30 else r, y))
    (by
      intro n k a b hk e
      subst e
      have tk := qv_tI k (by omega)
      have h1 := qu_16 k x
      have h2 := qu_160 hk (hJ k hk)
      by_cases ho : 0 < (x 14 k 9).toInt
      · rw [decide_eq_true ho] at h1 h2
        refine ⟨a + 1, a + 1, fun n => ?_, ?_, rfl⟩
        · simp (disch := first | omega | assumption | decide) only [qf15_4, qv_g4, qv_g6, qv_g8, qv_g16, qv_g32, qv_g48, qv_e4, qv_e6, qv_e8, qv_e16, qv_e32, qv_e48, qv_inT, qv_tN, qv_s1, cond_false, cond_true, if_true, h1, Option.bind_some, qv_eq0, Bool.not_true]
        · simp (disch := first | omega | assumption | decide) only [qf166_32, qv_g4, qv_g6, qv_g8, qv_g16, qv_g32, qv_g48, qv_e4, qv_e6, qv_e8, qv_e16, qv_e32, qv_e48, qv_inT, qv_tN, qv_s1, cond_false, cond_true, if_true, h2, Option.bind_some, qv_eq0, Bool.not_true]
      · rw [decide_eq_false ho] at h1 h2
        refine ⟨a, a, fun n => ?_, ?_, rfl⟩
        · simp (disch := first | omega | assumption | decide) only [qf15_4, qv_g4, qv_g6, qv_g8, qv_g16, qv_g32, qv_g48, qv_e4, qv_e6, qv_e8, qv_e16, qv_e32, qv_e48, qv_inT, qv_tN, qv_s1, cond_false, cond_true, if_true, h1, Option.bind_some, qv_eq0, Bool.not_false]
        · simp (disch := first | omega | assumption | decide) only [qf166_32, qv_g4, qv_g6, qv_g8, qv_g16, qv_g32, qv_g48, qv_e4, qv_e6, qv_e8, qv_e16, qv_e32, qv_e48, qv_inT, qv_tN, qv_s1, cond_false, cond_true, if_true, h2, Option.bind_some, qv_eq0, Bool.not_false, Int32.add_zero])
    (by
      intro n a b e
      subst e
      refine ⟨a, _, fun n => ?_, ?_, rfl⟩
      · simp (disch := first | omega | assumption | decide) only [qf15_4, qv_g4, qv_g6, qv_g8, qv_g16, qv_g32, qv_g48, qv_e4, qv_e6, qv_e8, qv_e16, qv_e32, qv_e48, qv_inT, qv_tN, qv_s1, cond_false, cond_true, if_true]
      · simp (disch := first | omega | assumption | decide) only [qf166_32, qv_g4, qv_g6, qv_g8, qv_g16, qv_g32, qv_g48, qv_e4, qv_e6, qv_e8, qv_e16, qv_e32, qv_e48, qv_inT, qv_tN, qv_s1, cond_false, cond_true, if_true, qv_ne]
        by_cases c0 : w = 0
        · subst c0; rfl
        · by_cases c1 : w = 1
          · subst c1; rfl
          · by_cases c2 : w = 2
            · subst c2; rfl
            · by_cases c3 : w = 3
              · subst c3; rfl
              · simp [c0, c1, c2, c3])
    4096 4096 0 0 0 (by decide) (by decide) (by decide) rfl
  obtain ⟨r, t, e1, e2, e3⟩ := this
  exact ⟨r, e1, e2.trans (by rw [e3])⟩
theorem qo16 : qo_op16 qR := by
  rintro s a1 ⟨r, T, B, c, n, h⟩
  have l0 : (0:Int32).toInt = 0 := rfl; have l1 : (1:Int32).toInt = 1 := rfl; have lm : (-1:Int32).toInt = -1 := rfl; have l3 : (3:Int32).toInt = 3 := rfl; have l4 : (4:Int32).toInt = 4 := rfl; have l5 : (5:Int32).toInt = 5 := rfl; have l6 : (6:Int32).toInt = 6 := rfl; have l7 : (7:Int32).toInt = 7 := rfl; have l8 : (8:Int32).toInt = 8 := rfl; have l15 : (15:Int32).toInt = 15 := rfl; have l16 : (16:Int32).toInt = 16 := rfl; have l32 : (32:Int32).toInt = 32 := rfl
  have k1 := h.2.2.2.2.2.2.2.2.1.1; have k2 := h.2.2.2.2.2.2.2.2.1.2.1
  obtain ⟨o, ho, ho2⟩ := qu_166 (x := s) (y := qp_up s 30 0 0 0) h.2.2.2.2.2.2.2.2.2.1 a1
  have hK := h.2.2.2.2.2.2.2.2.1
  obtain ⟨j1, j2, j3, j4, j5, j6, j7, j8, j9, j10⟩ := hK
  have k3 : (qp_up s 30 0 0 0) 30 0 20 = qv_b r := k2
  have k4 : (qp_up s 30 0 0 0) 30 0 21 = Int32.ofNat T := j4
  have k5 : (qp_up s 30 0 0 0) 30 0 22 = Int32.ofNat c := j6
  have k6 : (qp_up s 30 0 0 0) 30 0 23 = Int32.ofNat B := j8
  have k7 : (qp_up s 30 0 0 0) 30 0 30 = Int32.ofNat n := j10
  rw [k4, k5, k6, k7] at ho2
  by_cases h1 : 0 ≤ a1.toInt ∧ a1.toInt ≤ 4
  · obtain ⟨i, hi, rfl⟩ := qv_ex (N := 5) h1.1 (by omega)
    have ti := qv_tI i (by omega)
    have : i = 0 ∨ i = 1 ∨ i = 2 ∨ i = 3 ∨ i = 4 := by omega
    rcases this with e | e | e | e | e <;> subst e
    · cases r
      · refine ⟨-1, _, qR_thr 0 h, ?_, ?_⟩
        · unfold qf14; rw [k1]; rfl
        · simp (disch := first | omega | assumption | decide) only [qf166, qu_ltT, qu_ltF, qu_gtT, qu_gtF, qu_geT, qu_geF, qu_leT, qu_leF, qu_eqT, qu_eqF, qu_neT, qu_neF, qu_inT, qu_24T, qu_24F, qu_116T, qu_116F, qu_13T, qu_13F, qu_25T, qu_25F, qu_26T, qu_26F, qu_117a, qu_117b, qu_117c, qu_117d, qu_10F, qu_00T, qu_n10, qu_n00, Option.bind_some, cond_true, cond_false, if_true, qv_tN, k3, qv_ne0]
      · refine ⟨Int32.ofNat T, _, qR_thr 0 h, ?_, ?_⟩
        · unfold qf14; rw [k1, j3]; rfl
        · simp (disch := first | omega | assumption | decide) only [qf166, qu_ltT, qu_ltF, qu_gtT, qu_gtF, qu_geT, qu_geF, qu_leT, qu_leF, qu_eqT, qu_eqF, qu_neT, qu_neF, qu_inT, qu_24T, qu_24F, qu_116T, qu_116F, qu_13T, qu_13F, qu_25T, qu_25F, qu_26T, qu_26F, qu_117a, qu_117b, qu_117c, qu_117d, qu_10F, qu_00T, qu_n10, qu_n00, Option.bind_some, cond_true, cond_false, if_true, qv_tN, k3, qv_ne0]
          exact ho2
    · cases r
      · refine ⟨-1, _, qR_thr 0 h, ?_, ?_⟩
        · unfold qf14; rw [k1]; rfl
        · simp (disch := first | omega | assumption | decide) only [qf166, qu_ltT, qu_ltF, qu_gtT, qu_gtF, qu_geT, qu_geF, qu_leT, qu_leF, qu_eqT, qu_eqF, qu_neT, qu_neF, qu_inT, qu_24T, qu_24F, qu_116T, qu_116F, qu_13T, qu_13F, qu_25T, qu_25F, qu_26T, qu_26F, qu_117a, qu_117b, qu_117c, qu_117d, qu_10F, qu_00T, qu_n10, qu_n00, Option.bind_some, cond_true, cond_false, if_true, qv_tN, k3, qv_ne0]
      · refine ⟨Int32.ofNat c, _, qR_thr 0 h, ?_, ?_⟩
        · unfold qf14; rw [k1, j5]; rfl
        · simp (disch := first | omega | assumption | decide) only [qf166, qu_ltT, qu_ltF, qu_gtT, qu_gtF, qu_geT, qu_geF, qu_leT, qu_leF, qu_eqT, qu_eqF, qu_neT, qu_neF, qu_inT, qu_24T, qu_24F, qu_116T, qu_116F, qu_13T, qu_13F, qu_25T, qu_25F, qu_26T, qu_26F, qu_117a, qu_117b, qu_117c, qu_117d, qu_10F, qu_00T, qu_n10, qu_n00, Option.bind_some, cond_true, cond_false, if_true, qv_tN, k3, qv_ne0]
          exact ho2
    · cases r
      · refine ⟨-1, _, qR_thr 0 h, ?_, ?_⟩
        · unfold qf14; rw [k1]; rfl
        · simp (disch := first | omega | assumption | decide) only [qf166, qu_ltT, qu_ltF, qu_gtT, qu_gtF, qu_geT, qu_geF, qu_leT, qu_leF, qu_eqT, qu_eqF, qu_neT, qu_neF, qu_inT, qu_24T, qu_24F, qu_116T, qu_116F, qu_13T, qu_13F, qu_25T, qu_25F, qu_26T, qu_26F, qu_117a, qu_117b, qu_117c, qu_117d, qu_10F, qu_00T, qu_n10, qu_n00, Option.bind_some, cond_true, cond_false, if_true, qv_tN, k3, qv_ne0]
      · refine ⟨Int32.ofNat B, _, qR_thr 0 h, ?_, ?_⟩
        · unfold qf14; rw [k1, j7]; rfl
        · simp (disch := first | omega | assumption | decide) only [qf166, qu_ltT, qu_ltF, qu_gtT, qu_gtF, qu_geT, qu_geF, qu_leT, qu_leF, qu_eqT, qu_eqF, qu_neT, qu_neF, qu_inT, qu_24T, qu_24F, qu_116T, qu_116F, qu_13T, qu_13F, qu_25T, qu_25F, qu_26T, qu_26F, qu_117a, qu_117b, qu_117c, qu_117d, qu_10F, qu_00T, qu_n10, qu_n00, Option.bind_some, cond_true, cond_false, if_true, qv_tN, k3, qv_ne0]
          exact ho2
    · refine ⟨Int32.ofNat n, _, qR_thr 0 h, ?_, ?_⟩
      · unfold qf14; rw [j9]; rfl
      · simp (disch := first | omega | assumption | decide) only [qf166, qu_ltT, qu_ltF, qu_gtT, qu_gtF, qu_geT, qu_geF, qu_leT, qu_leF, qu_eqT, qu_eqF, qu_neT, qu_neF, qu_inT, qu_24T, qu_24F, qu_116T, qu_116F, qu_13T, qu_13F, qu_25T, qu_25F, qu_26T, qu_26F, qu_117a, qu_117b, qu_117c, qu_117d, qu_10F, qu_00T, qu_n10, qu_n00, Option.bind_some, cond_true, cond_false, if_true, qv_tN]
        exact ho2
    · refine ⟨o, _, qR_thr 0 h, ?_, ?_⟩
      · unfold qf14; rw [ho]; rfl
      · simp (disch := first | omega | assumption | decide) only [qf166, qu_ltT, qu_ltF, qu_gtT, qu_gtF, qu_geT, qu_geF, qu_leT, qu_leF, qu_eqT, qu_eqF, qu_neT, qu_neF, qu_inT, qu_24T, qu_24F, qu_116T, qu_116F, qu_13T, qu_13F, qu_25T, qu_25F, qu_26T, qu_26F, qu_117a, qu_117b, qu_117c, qu_117d, qu_10F, qu_00T, qu_n10, qu_n00, Option.bind_some, cond_true, cond_false, if_true, qv_tN]
        exact ho2
  · refine ⟨-1, _, qR_thr 0 h, ?_, ?_⟩
    · unfold qf14; rw [decide_eq_true (by omega)]; rfl
    · simp (disch := first | omega | assumption | decide) only [qf166, qu_ltT, qu_ltF, qu_gtT, qu_gtF, qu_geT, qu_geF, qu_leT, qu_leF, qu_eqT, qu_eqF, qu_neT, qu_neF, qu_inT, qu_24T, qu_24F, qu_116T, qu_116F, qu_13T, qu_13F, qu_25T, qu_25F, qu_26T, qu_26F, qu_117a, qu_117b, qu_117c, qu_117d, qu_10F, qu_00T, qu_n10, qu_n00, Option.bind_some, cond_true, cond_false, if_true, qv_tN]
