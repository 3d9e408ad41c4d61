/-! sense and actuate -/
theorem qu_45T {a : Int32} {s : qp_S} (h : -1 ≤ a.toInt ∧ a.toInt < 16) : qf45 a s = some (.inr 0) := by
  have l0 : (0:Int32).toInt = 0 := rfl; have l1 : (1:Int32).toInt = 1 := rfl; have lm : (-1:Int32).toInt = -1 := rfl; have l3 : (3:Int32).toInt = 3 := rfl; have l4 : (4:Int32).toInt = 4 := rfl; have l5 : (5:Int32).toInt = 5 := rfl; have l6 : (6:Int32).toInt = 6 := rfl; have l7 : (7:Int32).toInt = 7 := rfl; have l8 : (8:Int32).toInt = 8 := rfl; have l15 : (15:Int32).toInt = 15 := rfl; have l16 : (16:Int32).toInt = 16 := rfl; have l32 : (32:Int32).toInt = 32 := rfl
  by_cases e : a.toInt = -1
  · simp (disch := first | omega | assumption | decide) only [qf45, qu_ltT, qu_ltF, qu_gtT, qu_gtF, qu_geT, qu_geF, qu_leT, qu_leF, qu_eqT, qu_eqF, qu_neT, qu_neF, qu_inT, qu_24T, qu_24F, qu_116T, qu_116F, qu_13T, qu_13F, qu_25T, qu_25F, qu_26T, qu_26F, qu_117a, qu_117b, qu_117c, qu_117d, qu_10F, qu_00T, qu_n10, qu_n00, Option.bind_some, cond_true, cond_false, if_true, qv_tN]
  · simp (disch := first | omega | assumption | decide) only [qf45, qu_ltT, qu_ltF, qu_gtT, qu_gtF, qu_geT, qu_geF, qu_leT, qu_leF, qu_eqT, qu_eqF, qu_neT, qu_neF, qu_inT, qu_24T, qu_24F, qu_116T, qu_116F, qu_13T, qu_13F, qu_25T, qu_25F, qu_26T, qu_26F, qu_117a, qu_117b, qu_117c, qu_117d, qu_10F, qu_00T, qu_n10, qu_n00, Option.bind_some, cond_true, cond_false, if_true, qv_tN]
theorem qu_45F {a : Int32} {s : qp_S} (h : ¬ (-1 ≤ a.toInt ∧ a.toInt < 16)) : qf45 a s = some (.inl 70) := by
  have l0 : (0:Int32).toInt = 0 := rfl; have l1 : (1:Int32).toInt = 1 := rfl; have lm : (-1:Int32).toInt = -1 := rfl; have l3 : (3:Int32).toInt = 3 := rfl; have l4 : (4:Int32).toInt = 4 := rfl; have l5 : (5:Int32).toInt = 5 := rfl; have l6 : (6:Int32).toInt = 6 := rfl; have l7 : (7:Int32).toInt = 7 := rfl; have l8 : (8:Int32).toInt = 8 := rfl; have l15 : (15:Int32).toInt = 15 := rfl; have l16 : (16:Int32).toInt = 16 := rfl; have l32 : (32:Int32).toInt = 32 := rfl
  simp (disch := first | omega | assumption | decide) only [qf45, qu_ltT, qu_ltF, qu_gtT, qu_gtF, qu_geT, qu_geF, qu_leT, qu_leF, qu_eqT, qu_eqF, qu_neT, qu_neF, qu_inT, qu_24T, qu_24F, qu_116T, qu_116F, qu_13T, qu_13F, qu_25T, qu_25F, qu_26T, qu_26F, qu_117a, qu_117b, qu_117c, qu_117d, qu_10F, qu_00T, qu_n10, qu_n00, Option.bind_some, cond_true, cond_false, if_true, qv_tN]
theorem qu_125a {a b : Int32} {s : qp_S} (h : ¬ (0 ≤ a.toInt ∧ a.toInt < 8)) : qf125 a b s = some (0, qp_up s 30 0 0 1) := by
  have l0 : (0:Int32).toInt = 0 := rfl; have l1 : (1:Int32).toInt = 1 := rfl; have lm : (-1:Int32).toInt = -1 := rfl; have l3 : (3:Int32).toInt = 3 := rfl; have l4 : (4:Int32).toInt = 4 := rfl; have l5 : (5:Int32).toInt = 5 := rfl; have l6 : (6:Int32).toInt = 6 := rfl; have l7 : (7:Int32).toInt = 7 := rfl; have l8 : (8:Int32).toInt = 8 := rfl; have l15 : (15:Int32).toInt = 15 := rfl; have l16 : (16:Int32).toInt = 16 := rfl; have l32 : (32:Int32).toInt = 32 := rfl
  simp (disch := first | omega | assumption | decide) only [qf125, qu_ltT, qu_ltF, qu_gtT, qu_gtF, qu_geT, qu_geF, qu_leT, qu_leF, qu_eqT, qu_eqF, qu_neT, qu_neF, qu_inT, qu_24T, qu_24F, qu_116T, qu_116F, qu_13T, qu_13F, qu_25T, qu_25F, qu_26T, qu_26F, qu_117a, qu_117b, qu_117c, qu_117d, qu_10F, qu_00T, qu_n10, qu_n00, Option.bind_some, cond_true, cond_false, if_true, qv_tN]
  rfl
theorem qu_125b {a b : Int32} {s : qp_S} (h : 0 ≤ a.toInt ∧ a.toInt < 8) (h2 : ¬ (-1 ≤ b.toInt ∧ b.toInt < 16)) : qf125 a b s = some (0, qp_up s 30 0 0 1) := by
  have l0 : (0:Int32).toInt = 0 := rfl; have l1 : (1:Int32).toInt = 1 := rfl; have lm : (-1:Int32).toInt = -1 := rfl; have l3 : (3:Int32).toInt = 3 := rfl; have l4 : (4:Int32).toInt = 4 := rfl; have l5 : (5:Int32).toInt = 5 := rfl; have l6 : (6:Int32).toInt = 6 := rfl; have l7 : (7:Int32).toInt = 7 := rfl; have l8 : (8:Int32).toInt = 8 := rfl; have l15 : (15:Int32).toInt = 15 := rfl; have l16 : (16:Int32).toInt = 16 := rfl; have l32 : (32:Int32).toInt = 32 := rfl
  simp (disch := first | omega | assumption | decide) only [qf125, qu_ltT, qu_ltF, qu_gtT, qu_gtF, qu_geT, qu_geF, qu_leT, qu_leF, qu_eqT, qu_eqF, qu_neT, qu_neF, qu_inT, qu_24T, qu_24F, qu_116T, qu_116F, qu_13T, qu_13F, qu_25T, qu_25F, qu_26T, qu_26F, qu_117a, qu_117b, qu_117c, qu_117d, qu_10F, qu_00T, qu_n10, qu_n00, Option.bind_some, cond_true, cond_false, if_true, qv_tN]
  rfl
theorem qu_125c {a b : Int32} {s : qp_S} (h : 0 ≤ a.toInt ∧ a.toInt < 8) (h2 : -1 ≤ b.toInt ∧ b.toInt < 16) (k : s 30 0 20 = qv_b true) : qf125 a b s = some (0, qp_up s 30 0 0 2) := by
  have l0 : (0:Int32).toInt = 0 := rfl; have l1 : (1:Int32).toInt = 1 := rfl; have lm : (-1:Int32).toInt = -1 := rfl; have l3 : (3:Int32).toInt = 3 := rfl; have l4 : (4:Int32).toInt = 4 := rfl; have l5 : (5:Int32).toInt = 5 := rfl; have l6 : (6:Int32).toInt = 6 := rfl; have l7 : (7:Int32).toInt = 7 := rfl; have l8 : (8:Int32).toInt = 8 := rfl; have l15 : (15:Int32).toInt = 15 := rfl; have l16 : (16:Int32).toInt = 16 := rfl; have l32 : (32:Int32).toInt = 32 := rfl
  simp (disch := first | omega | assumption | decide) only [qf125, qu_ltT, qu_ltF, qu_gtT, qu_gtF, qu_geT, qu_geF, qu_leT, qu_leF, qu_eqT, qu_eqF, qu_neT, qu_neF, qu_inT, qu_24T, qu_24F, qu_116T, qu_116F, qu_13T, qu_13F, qu_25T, qu_25F, qu_26T, qu_26F, qu_117a, qu_117b, qu_117c, qu_117d, qu_10F, qu_00T, qu_n10, qu_n00, Option.bind_some, cond_true, cond_false, if_true, qv_tN, k, qv_eq0]
  rfl
theorem qu_125d {a b : Int32} {s : qp_S} (h : 0 ≤ a.toInt ∧ a.toInt < 8) (h2 : -1 ≤ b.toInt ∧ b.toInt < 16) (k : s 30 0 20 = qv_b false) : qf125 a b s = some (1, qp_up s 30 0 0 0) := by
  have l0 : (0:Int32).toInt = 0 := rfl; have l1 : (1:Int32).toInt = 1 := rfl; have lm : (-1:Int32).toInt = -1 := rfl; have l3 : (3:Int32).toInt = 3 := rfl; have l4 : (4:Int32).toInt = 4 := rfl; have l5 : (5:Int32).toInt = 5 := rfl; have l6 : (6:Int32).toInt = 6 := rfl; have l7 : (7:Int32).toInt = 7 := rfl; have l8 : (8:Int32).toInt = 8 := rfl; have l15 : (15:Int32).toInt = 15 := rfl; have l16 : (16:Int32).toInt = 16 := rfl; have l32 : (32:Int32).toInt = 32 := rfl
  simp (disch := first | omega | assumption | decide) only [qf125, qu_ltT, qu_ltF, qu_gtT, qu_gtF, qu_geT, qu_geF, qu_leT, qu_leF, qu_eqT, qu_eqF, qu_neT, qu_neF, qu_inT, qu_24T, qu_24F, qu_116T, qu_116F, qu_13T, qu_13F, qu_25T, qu_25F, qu_26T, qu_26F, qu_117a, qu_117b, qu_117c, qu_117d, qu_10F, qu_00T, qu_n10, qu_n00, Option.bind_some, cond_true, cond_false, if_true, qv_tN, k, qv_eq0]
  rfl
theorem qu_m1 {a : Int32} (h : -1 ≤ a.toInt ∧ a.toInt < 16) : a = -1 ∨ ∃ p, p < 16 ∧ a = Int32.ofNat p := by
  by_cases e : a.toInt = -1
  · exact Or.inl (Int32.toInt_inj.mp e)
  · exact Or.inr (qv_ex (by omega) (by omega))
theorem qo7 : qo_op7 qR := by
  rintro s a1 a2 ⟨r, T, B, c, n, h⟩
  have l0 : (0:Int32).toInt = 0 := rfl; have l1 : (1:Int32).toInt = 1 := rfl; have lm : (-1:Int32).toInt = -1 := rfl; have l3 : (3:Int32).toInt = 3 := rfl; have l4 : (4:Int32).toInt = 4 := rfl; have l5 : (5:Int32).toInt = 5 := rfl; have l6 : (6:Int32).toInt = 6 := rfl; have l7 : (7:Int32).toInt = 7 := rfl; have l8 : (8:Int32).toInt = 8 := rfl; have l15 : (15:Int32).toInt = 15 := rfl; have l16 : (16:Int32).toInt = 16 := rfl; have l32 : (32:Int32).toInt = 32 := rfl
  have k1 := h.2.2.2.2.2.2.2.2.1.1; have k2 := h.2.2.2.2.2.2.2.2.1.2.1
  by_cases h1 : 0 ≤ a1.toInt ∧ a1.toInt < 8
  · obtain ⟨i, hi, rfl⟩ := qv_ex (N := 8) h1.1 h1.2
    have ti := qv_tI i (by omega)
    by_cases h2 : -1 ≤ a2.toInt ∧ a2.toInt < 16
    · cases r with
      | false =>
        refine ⟨0, qp_up (qp_up (qp_up s 5 0 i a2) 30 0 0 0) 45 0 i a2, ?_, Or.inl ⟨(0, qp_up s 5 0 i a2), ?_, ?_, rfl⟩⟩
        · obtain ⟨hB, hW, hS, hP, hM, hG, hD, hE, hK, hJ, hZ⟩ := h
          refine ⟨false, T, B, c, n, hB, hW, hS, hP, hM, hG, ⟨fun t => ?_, fun t ht => ?_⟩, hE, hK, hJ, hZ⟩
          · by_cases e : t = i
            · subst e; simp (disch := first | omega | decide) only [qu_pk, qu_pj, qu_ps, qu_pi]; exact ⟨trivial, (hD.1 t).2⟩
            · simp (disch := first | omega | decide) only [qu_pk, qu_pj, qu_ps, qu_pi]; exact hD.1 t
          · by_cases e : t = i
            · subst e; simp (disch := first | omega | decide) only [qu_pk, qu_pj, qu_ps, qu_pi]; exact ⟨qu_m1 h2, (hD.2 t ht).2⟩
            · simp (disch := first | omega | decide) only [qu_pk, qu_pj, qu_ps, qu_pi]; exact hD.2 t ht
        · simp (disch := first | omega | assumption | decide) only [qf44, qu_45T, qu_ltT, qu_ltF, qu_gtT, qu_gtF, qu_geT, qu_geF, qu_leT, qu_leF, qu_eqT, qu_eqF, qu_neT, qu_neF, qu_inT, qu_24T, qu_24F, qu_116T, qu_116F, qu_13T, qu_13F, qu_25T, qu_25F, qu_26T, qu_26F, qu_117a, qu_117b, qu_117c, qu_117d, qu_10F, qu_00T, qu_n10, qu_n00, Option.bind_some, cond_true, cond_false, if_true, qv_tN]
        · have k3 : (qp_up s 5 0 i a2) 30 0 20 = qv_b false := k2
          simp (disch := first | omega | assumption | decide) only [qf124, qu_125d, qu_ltT, qu_ltF, qu_gtT, qu_gtF, qu_geT, qu_geF, qu_leT, qu_leF, qu_eqT, qu_eqF, qu_neT, qu_neF, qu_inT, qu_24T, qu_24F, qu_116T, qu_116F, qu_13T, qu_13F, qu_25T, qu_25F, qu_26T, qu_26F, qu_117a, qu_117b, qu_117c, qu_117d, qu_10F, qu_00T, qu_n10, qu_n00, Option.bind_some, cond_true, cond_false, if_true, qv_tN]
      | true =>
        refine ⟨0, _, qR_thr 2 h, Or.inr (Or.inr ⟨?_, ?_, rfl⟩)⟩
        · simp (disch := first | omega | assumption | decide) only [qf44, qu_45T, qu_ltT, qu_ltF, qu_gtT, qu_gtF, qu_geT, qu_geF, qu_leT, qu_leF, qu_eqT, qu_eqF, qu_neT, qu_neF, qu_inT, qu_24T, qu_24F, qu_116T, qu_116F, qu_13T, qu_13F, qu_25T, qu_25F, qu_26T, qu_26F, qu_117a, qu_117b, qu_117c, qu_117d, qu_10F, qu_00T, qu_n10, qu_n00, Option.bind_some, cond_true, cond_false, if_true, qv_tN]
        · simp (disch := first | omega | assumption | decide) only [qf124, qu_125c, qu_ltT, qu_ltF, qu_gtT, qu_gtF, qu_geT, qu_geF, qu_leT, qu_leF, qu_eqT, qu_eqF, qu_neT, qu_neF, qu_inT, qu_24T, qu_24F, qu_116T, qu_116F, qu_13T, qu_13F, qu_25T, qu_25F, qu_26T, qu_26F, qu_117a, qu_117b, qu_117c, qu_117d, qu_10F, qu_00T, qu_n10, qu_n00, Option.bind_some, cond_true, cond_false, if_true, qv_tN]
    · refine ⟨0, _, qR_thr 1 h, Or.inr (Or.inl ⟨?_, ?_, rfl⟩)⟩
      · simp (disch := first | omega | assumption | decide) only [qf44, qu_45F, qu_ltT, qu_ltF, qu_gtT, qu_gtF, qu_geT, qu_geF, qu_leT, qu_leF, qu_eqT, qu_eqF, qu_neT, qu_neF, qu_inT, qu_24T, qu_24F, qu_116T, qu_116F, qu_13T, qu_13F, qu_25T, qu_25F, qu_26T, qu_26F, qu_117a, qu_117b, qu_117c, qu_117d, qu_10F, qu_00T, qu_n10, qu_n00, Option.bind_some, cond_true, cond_false, if_true, qv_tN]
      · simp (disch := first | omega | assumption | decide) only [qf124, qu_125b, qu_ltT, qu_ltF, qu_gtT, qu_gtF, qu_geT, qu_geF, qu_leT, qu_leF, qu_eqT, qu_eqF, qu_neT, qu_neF, qu_inT, qu_24T, qu_24F, qu_116T, qu_116F, qu_13T, qu_13F, qu_25T, qu_25F, qu_26T, qu_26F, qu_117a, qu_117b, qu_117c, qu_117d, qu_10F, qu_00T, qu_n10, qu_n00, Option.bind_some, cond_true, cond_false, if_true, qv_tN]
  · refine ⟨0, _, qR_thr 1 h, Or.inr (Or.inl ⟨?_, ?_, rfl⟩)⟩
    · simp (disch := first | omega | assumption | decide) only [qf44, qu_ltT, qu_ltF, qu_gtT, qu_gtF, qu_geT, qu_geF, qu_leT, qu_leF, qu_eqT, qu_eqF, qu_neT, qu_neF, qu_inT, qu_24T, qu_24F, qu_116T, qu_116F, qu_13T, qu_13F, qu_25T, qu_25F, qu_26T, qu_26F, qu_117a, qu_117b, qu_117c, qu_117d, qu_10F, qu_00T, qu_n10, qu_n00, Option.bind_some, cond_true, cond_false, if_true, qv_tN]
    · simp (disch := first | omega | assumption | decide) only [qf124, qu_125a, qu_ltT, qu_ltF, qu_gtT, qu_gtF, qu_geT, qu_geF, qu_leT, qu_leF, qu_eqT, qu_eqF, qu_neT, qu_neF, qu_inT, qu_24T, qu_24F, qu_116T, qu_116F, qu_13T, qu_13F, qu_25T, qu_25F, qu_26T, qu_26F, qu_117a, qu_117b, qu_117c, qu_117d, qu_10F, qu_00T, qu_n10, qu_n00, Option.bind_some, cond_true, cond_false, if_true, qv_tN]
theorem qo8 : qo_op8 qR := by
  rintro s a1 a2 ⟨r, T, B, c, n, h⟩
  have l0 : (0:Int32).toInt = 0 := rfl; have l1 : (1:Int32).toInt = 1 := rfl; have lm : (-1:Int32).toInt = -1 := rfl; have l3 : (3:Int32).toInt = 3 := rfl; have l4 : (4:Int32).toInt = 4 := rfl; have l5 : (5:Int32).toInt = 5 := rfl; have l6 : (6:Int32).toInt = 6 := rfl; have l7 : (7:Int32).toInt = 7 := rfl; have l8 : (8:Int32).toInt = 8 := rfl; have l15 : (15:Int32).toInt = 15 := rfl; have l16 : (16:Int32).toInt = 16 := rfl; have l32 : (32:Int32).toInt = 32 := rfl
  have k1 := h.2.2.2.2.2.2.2.2.1.1; have k2 := h.2.2.2.2.2.2.2.2.1.2.1
  by_cases h1 : 0 ≤ a1.toInt ∧ a1.toInt < 8
  · obtain ⟨i, hi, rfl⟩ := qv_ex (N := 8) h1.1 h1.2
    have ti := qv_tI i (by omega)
    by_cases h2 : -1 ≤ a2.toInt ∧ a2.toInt < 16
    · cases r with
      | false =>
        refine ⟨0, qp_up (qp_up (qp_up s 26 i 0 a2) 30 0 0 0) 47 0 i a2, ?_, Or.inl ⟨(0, qp_up s 26 i 0 a2), ?_, ?_, rfl⟩⟩
        · obtain ⟨hB, hW, hS, hP, hM, hG, hD, hE, hK, hJ, hZ⟩ := h
          refine ⟨false, T, B, c, n, hB, hW, hS, hP, hM, hG, ⟨fun t => ?_, fun t ht => ?_⟩, hE, hK, hJ, hZ⟩
          · by_cases e : t = i
            · subst e; simp (disch := first | omega | decide) only [qu_pk, qu_pj, qu_ps, qu_pi]; exact ⟨(hD.1 t).1, (hD.1 t).2.1, trivial, (hD.1 t).2.2.2⟩
            · simp (disch := first | omega | decide) only [qu_pk, qu_pj, qu_ps, qu_pi]; exact hD.1 t
          · by_cases e : t = i
            · subst e; simp (disch := first | omega | decide) only [qu_pk, qu_pj, qu_ps, qu_pi]; exact ⟨(hD.2 t ht).1, qu_m1 h2⟩
            · simp (disch := first | omega | decide) only [qu_pk, qu_pj, qu_ps, qu_pi]; exact hD.2 t ht
        · simp (disch := first | omega | assumption | decide) only [qf47, qu_45T, qu_ltT, qu_ltF, qu_gtT, qu_gtF, qu_geT, qu_geF, qu_leT, qu_leF, qu_eqT, qu_eqF, qu_neT, qu_neF, qu_inT, qu_24T, qu_24F, qu_116T, qu_116F, qu_13T, qu_13F, qu_25T, qu_25F, qu_26T, qu_26F, qu_117a, qu_117b, qu_117c, qu_117d, qu_10F, qu_00T, qu_n10, qu_n00, Option.bind_some, cond_true, cond_false, if_true, qv_tN]
        · have k3 : (qp_up s 26 i 0 a2) 30 0 20 = qv_b false := k2
          simp (disch := first | omega | assumption | decide) only [qf126, qu_125d, qu_ltT, qu_ltF, qu_gtT, qu_gtF, qu_geT, qu_geF, qu_leT, qu_leF, qu_eqT, qu_eqF, qu_neT, qu_neF, qu_inT, qu_24T, qu_24F, qu_116T, qu_116F, qu_13T, qu_13F, qu_25T, qu_25F, qu_26T, qu_26F, qu_117a, qu_117b, qu_117c, qu_117d, qu_10F, qu_00T, qu_n10, qu_n00, Option.bind_some, cond_true, cond_false, if_true, qv_tN]
      | true =>
        refine ⟨0, _, qR_thr 2 h, Or.inr (Or.inr ⟨?_, ?_, rfl⟩)⟩
        · simp (disch := first | omega | assumption | decide) only [qf47, qu_45T, qu_ltT, qu_ltF, qu_gtT, qu_gtF, qu_geT, qu_geF, qu_leT, qu_leF, qu_eqT, qu_eqF, qu_neT, qu_neF, qu_inT, qu_24T, qu_24F, qu_116T, qu_116F, qu_13T, qu_13F, qu_25T, qu_25F, qu_26T, qu_26F, qu_117a, qu_117b, qu_117c, qu_117d, qu_10F, qu_00T, qu_n10, qu_n00, Option.bind_some, cond_true, cond_false, if_true, qv_tN]
        · simp (disch := first | omega | assumption | decide) only [qf126, qu_125c, qu_ltT, qu_ltF, qu_gtT, qu_gtF, qu_geT, qu_geF, qu_leT, qu_leF, qu_eqT, qu_eqF, qu_neT, qu_neF, qu_inT, qu_24T, qu_24F, qu_116T, qu_116F, qu_13T, qu_13F, qu_25T, qu_25F, qu_26T, qu_26F, qu_117a, qu_117b, qu_117c, qu_117d, qu_10F, qu_00T, qu_n10, qu_n00, Option.bind_some, cond_true, cond_false, if_true, qv_tN]
    · refine ⟨0, _, qR_thr 1 h, Or.inr (Or.inl ⟨?_, ?_, rfl⟩)⟩
      · simp (disch := first | omega | assumption | decide) only [qf47, qu_45F, qu_ltT, qu_ltF, qu_gtT, qu_gtF, qu_geT, qu_geF, qu_leT, qu_leF, qu_eqT, qu_eqF, qu_neT, qu_neF, qu_inT, qu_24T, qu_24F, qu_116T, qu_116F, qu_13T, qu_13F, qu_25T, qu_25F, qu_26T, qu_26F, qu_117a, qu_117b, qu_117c, qu_117d, qu_10F, qu_00T, qu_n10, qu_n00, Option.bind_some, cond_true, cond_false, if_true, qv_tN]
      · simp (disch := first | omega | assumption | decide) only [qf126, qu_125b, qu_ltT, qu_ltF, qu_gtT, qu_gtF, qu_geT, qu_geF, qu_leT, qu_leF, qu_eqT, qu_eqF, qu_neT, qu_neF, qu_inT, qu_24T, qu_24F, qu_116T, qu_116F, qu_13T, qu_13F, qu_25T, qu_25F, qu_26T, qu_26F, qu_117a, qu_117b, qu_117c, qu_117d, qu_10F, qu_00T, qu_n10, qu_n00, Option.bind_some, cond_true, cond_false, if_true, qv_tN]
  · refine ⟨0, _, qR_thr 1 h, Or.inr (Or.inl ⟨?_, ?_, rfl⟩)⟩
    · simp (disch := first | omega | assumption | decide) only [qf47, qu_ltT, qu_ltF, qu_gtT, qu_gtF, qu_geT, qu_geF, qu_leT, qu_leF, qu_eqT, qu_eqF, qu_neT, qu_neF, qu_inT, qu_24T, qu_24F, qu_116T, qu_116F, qu_13T, qu_13F, qu_25T, qu_25F, qu_26T, qu_26F, qu_117a, qu_117b, qu_117c, qu_117d, qu_10F, qu_00T, qu_n10, qu_n00, Option.bind_some, cond_true, cond_false, if_true, qv_tN]
    · simp (disch := first | omega | assumption | decide) only [qf126, qu_125a, qu_ltT, qu_ltF, qu_gtT, qu_gtF, qu_geT, qu_geF, qu_leT, qu_leF, qu_eqT, qu_eqF, qu_neT, qu_neF, qu_inT, qu_24T, qu_24F, qu_116T, qu_116F, qu_13T, qu_13F, qu_25T, qu_25F, qu_26T, qu_26F, qu_117a, qu_117b, qu_117c, qu_117d, qu_10F, qu_00T, qu_n10, qu_n00, Option.bind_some, cond_true, cond_false, if_true, qv_tN]
/-! sensor -/
theorem qo10 : qo_op10 qR := by
  rintro s a1 a2 ⟨r, T, B, c, n, h⟩
  have l0 : (0:Int32).toInt = 0 := rfl; have l1 : (1:Int32).toInt = 1 := rfl; have lm : (-1:Int32).toInt = -1 := rfl; have l3 : (3:Int32).toInt = 3 := rfl; have l4 : (4:Int32).toInt = 4 := rfl; have l5 : (5:Int32).toInt = 5 := rfl; have l6 : (6:Int32).toInt = 6 := rfl; have l7 : (7:Int32).toInt = 7 := rfl; have l8 : (8:Int32).toInt = 8 := rfl; have l15 : (15:Int32).toInt = 15 := rfl; have l16 : (16:Int32).toInt = 16 := rfl; have l32 : (32:Int32).toInt = 32 := rfl
  by_cases h1 : 0 ≤ a1.toInt ∧ a1.toInt < 8
  · obtain ⟨i, hi, rfl⟩ := qv_ex (N := 8) h1.1 h1.2
    have ti := qv_tI i (by omega)
    refine ⟨0, qp_up (qp_up (qp_up s 6 0 i a2) 30 0 0 0) 46 0 i a2, ?_, Or.inl ⟨(0, qp_up s 6 0 i a2), ?_, ?_, rfl⟩⟩
    · obtain ⟨hB, hW, hS, hP, hM, hG, hD, hE, hK, hJ, hZ⟩ := h
      refine ⟨r, T, B, c, n, hB, hW, hS, hP, hM, hG, ⟨fun t => ?_, hD.2⟩, hE, hK, hJ, hZ⟩
      by_cases e : t = i
      · subst e; simp (disch := first | omega | decide) only [qu_pk, qu_pj, qu_ps, qu_pi]; exact ⟨(hD.1 t).1, trivial, (hD.1 t).2.2⟩
      · simp (disch := first | omega | decide) only [qu_pk, qu_pj, qu_ps, qu_pi]; exact hD.1 t
    · simp (disch := first | omega | assumption | decide) only [qf92, qu_ltT, qu_ltF, qu_gtT, qu_gtF, qu_geT, qu_geF, qu_leT, qu_leF, qu_eqT, qu_eqF, qu_neT, qu_neF, qu_inT, qu_24T, qu_24F, qu_116T, qu_116F, qu_13T, qu_13F, qu_25T, qu_25F, qu_26T, qu_26F, qu_117a, qu_117b, qu_117c, qu_117d, qu_10F, qu_00T, qu_n10, qu_n00, Option.bind_some, cond_true, cond_false, if_true, qv_tN]
    · simp (disch := first | omega | assumption | decide) only [qf158, qf158_16, qu_ps, qu_ltT, qu_ltF, qu_gtT, qu_gtF, qu_geT, qu_geF, qu_leT, qu_leF, qu_eqT, qu_eqF, qu_neT, qu_neF, qu_inT, qu_24T, qu_24F, qu_116T, qu_116F, qu_13T, qu_13F, qu_25T, qu_25F, qu_26T, qu_26F, qu_117a, qu_117b, qu_117c, qu_117d, qu_10F, qu_00T, qu_n10, qu_n00, Option.bind_some, cond_true, cond_false, if_true, qv_tN]
  · refine ⟨0, _, qR_thr 1 h, Or.inr ⟨?_, ?_, rfl⟩⟩
    · simp (disch := first | omega | assumption | decide) only [qf92, qu_ltT, qu_ltF, qu_gtT, qu_gtF, qu_geT, qu_geF, qu_leT, qu_leF, qu_eqT, qu_eqF, qu_neT, qu_neF, qu_inT, qu_24T, qu_24F, qu_116T, qu_116F, qu_13T, qu_13F, qu_25T, qu_25F, qu_26T, qu_26F, qu_117a, qu_117b, qu_117c, qu_117d, qu_10F, qu_00T, qu_n10, qu_n00, Option.bind_some, cond_true, cond_false, if_true, qv_tN]
    · simp (disch := first | omega | assumption | decide) only [qf158, qf158_16, qu_ps, qu_ltT, qu_ltF, qu_gtT, qu_gtF, qu_geT, qu_geF, qu_leT, qu_leF, qu_eqT, qu_eqF, qu_neT, qu_neF, qu_inT, qu_24T, qu_24F, qu_116T, qu_116F, qu_13T, qu_13F, qu_25T, qu_25F, qu_26T, qu_26F, qu_117a, qu_117b, qu_117c, qu_117d, qu_10F, qu_00T, qu_n10, qu_n00, Option.bind_some, cond_true, cond_false, if_true, qv_tN]
/-! value -/
theorem qo14 : qo_op14 qR := by
  rintro s a1 ⟨r, T, B, c, n, h⟩
  have l0 : (0:Int32).toInt = 0 := rfl; have l1 : (1:Int32).toInt = 1 := rfl; have lm : (-1:Int32).toInt = -1 := rfl; have l3 : (3:Int32).toInt = 3 := rfl; have l4 : (4:Int32).toInt = 4 := rfl; have l5 : (5:Int32).toInt = 5 := rfl; have l6 : (6:Int32).toInt = 6 := rfl; have l7 : (7:Int32).toInt = 7 := rfl; have l8 : (8:Int32).toInt = 8 := rfl; have l15 : (15:Int32).toInt = 15 := rfl; have l16 : (16:Int32).toInt = 16 := rfl; have l32 : (32:Int32).toInt = 32 := rfl
  by_cases h1 : 0 ≤ a1.toInt ∧ a1.toInt < 16
  · obtain ⟨i, hi, rfl⟩ := qv_ex (N := 16) h1.1 h1.2
    have ti := qv_tI i (by omega)
    refine ⟨s 40 0 i, _, qR_thr 0 h, Or.inl ⟨s 21 i 2, ?_, ?_, rfl, ?_⟩⟩
    · simp (disch := first | omega | assumption | decide) only [qf112, qu_ltT, qu_ltF, qu_gtT, qu_gtF, qu_geT, qu_geF, qu_leT, qu_leF, qu_eqT, qu_eqF, qu_neT, qu_neF, qu_inT, qu_24T, qu_24F, qu_116T, qu_116F, qu_13T, qu_13F, qu_25T, qu_25F, qu_26T, qu_26F, qu_117a, qu_117b, qu_117c, qu_117d, qu_10F, qu_00T, qu_n10, qu_n00, Option.bind_some, cond_true, cond_false, if_true, qv_tN]
    · simp (disch := first | omega | assumption | decide) only [qf164, qf164_16, qu_ps, qu_pk, qu_ltT, qu_ltF, qu_gtT, qu_gtF, qu_geT, qu_geF, qu_leT, qu_leF, qu_eqT, qu_eqF, qu_neT, qu_neF, qu_inT, qu_24T, qu_24F, qu_116T, qu_116F, qu_13T, qu_13F, qu_25T, qu_25F, qu_26T, qu_26F, qu_117a, qu_117b, qu_117c, qu_117d, qu_10F, qu_00T, qu_n10, qu_n00, Option.bind_some, cond_true, cond_false, if_true, qv_tN]
    · exact (h.2.2.2.1 i).2.2.1
  · refine ⟨0, _, qR_thr 1 h, Or.inr ⟨?_, ?_, rfl⟩⟩
    · simp (disch := first | omega | assumption | decide) only [qf112, qu_ltT, qu_ltF, qu_gtT, qu_gtF, qu_geT, qu_geF, qu_leT, qu_leF, qu_eqT, qu_eqF, qu_neT, qu_neF, qu_inT, qu_24T, qu_24F, qu_116T, qu_116F, qu_13T, qu_13F, qu_25T, qu_25F, qu_26T, qu_26F, qu_117a, qu_117b, qu_117c, qu_117d, qu_10F, qu_00T, qu_n10, qu_n00, Option.bind_some, cond_true, cond_false, if_true, qv_tN]
    · simp (disch := first | omega | assumption | decide) only [qf164, qf164_16, qu_ps, qu_ltT, qu_ltF, qu_gtT, qu_gtF, qu_geT, qu_geF, qu_leT, qu_leF, qu_eqT, qu_eqF, qu_neT, qu_neF, qu_inT, qu_24T, qu_24F, qu_116T, qu_116F, qu_13T, qu_13F, qu_25T, qu_25F, qu_26T, qu_26F, qu_117a, qu_117b, qu_117c, qu_117d, qu_10F, qu_00T, qu_n10, qu_n00, Option.bind_some, cond_true, cond_false, if_true, qv_tN]
/-! actuator -/
theorem qo15 : qo_op15 qR := by
  rintro s a1 a2 ⟨r, T, B, c, n, h⟩
  have l0 : (0:Int32).toInt = 0 := rfl; have l1 : (1:Int32).toInt = 1 := rfl; have lm : (-1:Int32).toInt = -1 := rfl; have l3 : (3:Int32).toInt = 3 := rfl; have l4 : (4:Int32).toInt = 4 := rfl; have l5 : (5:Int32).toInt = 5 := rfl; have l6 : (6:Int32).toInt = 6 := rfl; have l7 : (7:Int32).toInt = 7 := rfl; have l8 : (8:Int32).toInt = 8 := rfl; have l15 : (15:Int32).toInt = 15 := rfl; have l16 : (16:Int32).toInt = 16 := rfl; have l32 : (32:Int32).toInt = 32 := rfl
  by_cases h1 : 0 ≤ a1.toInt ∧ a1.toInt < 8
  · obtain ⟨i, hi, rfl⟩ := qv_ex (N := 8) h1.1 h1.2
    have ti := qv_tI i (by omega)
    have e1 := (h.2.2.2.2.2.2.1.1 i).2.2.2.1
    have e2 := (h.2.2.2.2.2.2.1.1 i).2.2.2.2
    by_cases h2 : a2 = 0
    · subst h2
      refine ⟨s 48 0 i, _, qR_thr 0 h, ?_, ?_⟩
      · simp (disch := first | omega | assumption | decide) only [qf12, qu_ltT, qu_ltF, qu_gtT, qu_gtF, qu_geT, qu_geF, qu_leT, qu_leF, qu_eqT, qu_eqF, qu_neT, qu_neF, qu_inT, qu_24T, qu_24F, qu_116T, qu_116F, qu_13T, qu_13F, qu_25T, qu_25F, qu_26T, qu_26F, qu_117a, qu_117b, qu_117c, qu_117d, qu_10F, qu_00T, qu_n10, qu_n00, Option.bind_some, cond_true, cond_false, if_true, qv_tN, decide_true]
        rw [e1]
      · simp (disch := first | omega | assumption | decide) only [qf165, qu_ltT, qu_ltF, qu_gtT, qu_gtF, qu_geT, qu_geF, qu_leT, qu_leF, qu_eqT, qu_eqF, qu_neT, qu_neF, qu_inT, qu_24T, qu_24F, qu_116T, qu_116F, qu_13T, qu_13F, qu_25T, qu_25F, qu_26T, qu_26F, qu_117a, qu_117b, qu_117c, qu_117d, qu_10F, qu_00T, qu_n10, qu_n00, Option.bind_some, cond_true, cond_false, if_true, qv_tN, qu_pk]
    · by_cases h3 : a2 = 1
      · subst h3
        refine ⟨s 49 0 i, _, qR_thr 0 h, ?_, ?_⟩
        · simp (disch := first | omega | assumption | decide) only [qf12, qu_ltT, qu_ltF, qu_gtT, qu_gtF, qu_geT, qu_geF, qu_leT, qu_leF, qu_eqT, qu_eqF, qu_neT, qu_neF, qu_inT, qu_24T, qu_24F, qu_116T, qu_116F, qu_13T, qu_13F, qu_25T, qu_25F, qu_26T, qu_26F, qu_117a, qu_117b, qu_117c, qu_117d, qu_10F, qu_00T, qu_n10, qu_n00, Option.bind_some, cond_true, cond_false, if_true, qv_tN, decide_true, h2, decide_false]
          rw [e2]
        · simp (disch := first | omega | assumption | decide) only [qf165, qu_ltT, qu_ltF, qu_gtT, qu_gtF, qu_geT, qu_geF, qu_leT, qu_leF, qu_eqT, qu_eqF, qu_neT, qu_neF, qu_inT, qu_24T, qu_24F, qu_116T, qu_116F, qu_13T, qu_13F, qu_25T, qu_25F, qu_26T, qu_26F, qu_117a, qu_117b, qu_117c, qu_117d, qu_10F, qu_00T, qu_n10, qu_n00, Option.bind_some, cond_true, cond_false, if_true, qv_tN, qu_pk]
      · refine ⟨-1, _, qR_thr 0 h, ?_, ?_⟩
        · simp (disch := first | omega | assumption | decide) only [qf12, qu_ltT, qu_ltF, qu_gtT, qu_gtF, qu_geT, qu_geF, qu_leT, qu_leF, qu_eqT, qu_eqF, qu_neT, qu_neF, qu_inT, qu_24T, qu_24F, qu_116T, qu_116F, qu_13T, qu_13F, qu_25T, qu_25F, qu_26T, qu_26F, qu_117a, qu_117b, qu_117c, qu_117d, qu_10F, qu_00T, qu_n10, qu_n00, Option.bind_some, cond_true, cond_false, if_true, qv_tN, h2, h3, decide_false]
        · simp (disch := first | omega | assumption | decide) only [qf165, qu_ltT, qu_ltF, qu_gtT, qu_gtF, qu_geT, qu_geF, qu_leT, qu_leF, qu_eqT, qu_eqF, qu_neT, qu_neF, qu_inT, qu_24T, qu_24F, qu_116T, qu_116F, qu_13T, qu_13F, qu_25T, qu_25F, qu_26T, qu_26F, qu_117a, qu_117b, qu_117c, qu_117d, qu_10F, qu_00T, qu_n10, qu_n00, Option.bind_some, cond_true, cond_false, if_true, qv_tN, qu_pk, qv_ne, h2, h3, not_false_eq_true, decide_true]
          rfl
  · refine ⟨-1, _, qR_thr 0 h, ?_, ?_⟩
    · simp (disch := first | omega | assumption | decide) only [qf12, qu_ltT, qu_ltF, qu_gtT, qu_gtF, qu_geT, qu_geF, qu_leT, qu_leF, qu_eqT, qu_eqF, qu_neT, qu_neF, qu_inT, qu_24T, qu_24F, qu_116T, qu_116F, qu_13T, qu_13F, qu_25T, qu_25F, qu_26T, qu_26F, qu_117a, qu_117b, qu_117c, qu_117d, qu_10F, qu_00T, qu_n10, qu_n00, Option.bind_some, cond_true, cond_false, if_true, qv_tN]
    · simp (disch := first | omega | assumption | decide) only [qf165, qu_ltT, qu_ltF, qu_gtT, qu_gtF, qu_geT, qu_geF, qu_leT, qu_leF, qu_eqT, qu_eqF, qu_neT, qu_neF, qu_inT, qu_24T, qu_24F, qu_116T, qu_116F, qu_13T, qu_13F, qu_25T, qu_25F, qu_26T, qu_26F, qu_117a, qu_117b, qu_117c, qu_117d, qu_10F, qu_00T, qu_n10, qu_n00, Option.bind_some, cond_true, cond_false, if_true, qv_tN]
