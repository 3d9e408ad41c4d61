/-! task -/
theorem qo0 : qo_op0 qR := by
  rintro s a1 a2 ⟨r, T, B, c, n, h⟩
  have l0 : (0:Int32).toInt = 0 := rfl; have l1 : (1:Int32).toInt = 1 := rfl; have lm : (-1:Int32).toInt = -1 := rfl; have l3 : (3:Int32).toInt = 3 := rfl; have l4 : (4:Int32).toInt = 4 := rfl; have l5 : (5:Int32).toInt = 5 := rfl; have l6 : (6:Int32).toInt = 6 := rfl; have l7 : (7:Int32).toInt = 7 := rfl; have l8 : (8:Int32).toInt = 8 := rfl; have l15 : (15:Int32).toInt = 15 := rfl; have l16 : (16:Int32).toInt = 16 := rfl; have l32 : (32:Int32).toInt = 32 := rfl; have l200 : (200:Int32).toInt = 200 := rfl
  have k1 := h.2.2.2.2.2.2.2.2.1.1
  have k2 := h.2.2.2.2.2.2.2.2.1.2.1
  by_cases h1 : 0 ≤ a1.toInt ∧ a1.toInt < 8
  · obtain ⟨i, hi, rfl⟩ := qv_ex (N := 8) h1.1 h1.2
    have ti := qv_tI i (by omega)
    by_cases h2 : 1 ≤ a2.toInt ∧ a2.toInt ≤ 200
    · cases r with
      | false =>
        refine ⟨0, qp_up (qp_up (qp_up s 14 i 0 a2) 30 0 0 0) 31 0 i a2, ?_, Or.inl ⟨(0, qp_up s 14 i 0 a2), ?_, ?_, rfl⟩⟩
        · have hj := qu_J0 h
          obtain ⟨hB, hW, hS, hP, hM, hG, hD, hE, hK, hJ, hZ⟩ := h
          refine ⟨false, T, B, c, n, ⟨fun t => ?_, fun t ht => ?_⟩, ⟨fun t => ?_, hW.2⟩, hS, hP, hM, hG, hD, hE, hK, fun t ht => Or.inl ?_, hZ⟩
          · by_cases e : t = i
            · subst e; simp (disch := first | omega | decide) only [qu_pk, qu_pj, qu_ps, qu_pi]
            · simp (disch := first | omega | decide) only [qu_pk, qu_pj, qu_ps, qu_pi]; exact hB.1 t
          · by_cases e : t = i
            · subst e; simp (disch := first | omega | decide) only [qu_pk, qu_pj, qu_ps, qu_pi]
              obtain ⟨b, hb, e⟩ := qv_ex (a := a2) (N := 201) (by omega) (by omega)
              subst e
              have := qv_tI b (by omega)
              exact ⟨b, by omega, by omega, rfl⟩
            · simp (disch := first | omega | decide) only [qu_pk, qu_pj, qu_ps, qu_pi]; exact hB.2 t ht
          · simp (disch := first | omega | decide) only [qu_pk, qu_pj, qu_ps, qu_pi]; exact hW.1 t
          · have hl := qu_J0l (hj t ht)
            exact qu_J0c (hj t ht) rfl (by simp (disch := first | omega | decide) only [qu_pk, qu_pj, qu_ps, qu_pi]) (by simp (disch := first | omega | decide) only [qu_pk, qu_pj, qu_ps, qu_pi]) (by simp (disch := first | omega | decide) only [qu_pk, qu_pj, qu_ps, qu_pi]) (by simp (disch := first | omega | decide) only [qu_pk, qu_pj, qu_ps, qu_pi]) rfl (by simp (disch := first | omega | decide) only [qu_pk, qu_pj, qu_ps, qu_pi]) hl.1 hl.2
        · simp (disch := first | omega | assumption | decide) only [qf23, qf23_23, qu_ltT, qu_ltF, qu_gtT, qu_gtF, qu_geT, qu_geF, qu_leT, qu_leF, qu_eqT, qu_eqF, qu_neT, qu_neF, qu_inT, qu_24T, qu_24F, qu_116T, qu_116F, qu_13T, qu_13F, qu_25T, qu_25F, qu_26T, qu_26F, qu_117a, qu_117b, qu_117c, qu_117d, qu_10F, qu_00T, qu_n10, qu_n00, Option.bind_some, cond_true, cond_false, if_true, qv_tN]
        · have k3 : (qp_up s 14 i 0 a2) 30 0 20 = qv_b false := k2
          simp (disch := first | omega | assumption | decide) only [qf115, qu_ltT, qu_ltF, qu_gtT, qu_gtF, qu_geT, qu_geF, qu_leT, qu_leF, qu_eqT, qu_eqF, qu_neT, qu_neF, qu_inT, qu_24T, qu_24F, qu_116T, qu_116F, qu_13T, qu_13F, qu_25T, qu_25F, qu_26T, qu_26F, qu_117a, qu_117b, qu_117c, qu_117d, qu_10F, qu_00T, qu_n10, qu_n00, Option.bind_some, cond_true, cond_false, if_true, qv_tN]
      | true =>
        refine ⟨0, _, qR_thr 3 h, Or.inr (Or.inr (Or.inr ⟨?_, ?_, rfl⟩))⟩
        · simp (disch := first | omega | assumption | decide) only [qf23, qf23_23, qu_ltT, qu_ltF, qu_gtT, qu_gtF, qu_geT, qu_geF, qu_leT, qu_leF, qu_eqT, qu_eqF, qu_neT, qu_neF, qu_inT, qu_24T, qu_24F, qu_116T, qu_116F, qu_13T, qu_13F, qu_25T, qu_25F, qu_26T, qu_26F, qu_117a, qu_117b, qu_117c, qu_117d, qu_10F, qu_00T, qu_n10, qu_n00, Option.bind_some, cond_true, cond_false, if_true, qv_tN]
        · simp (disch := first | omega | assumption | decide) only [qf115, qu_ltT, qu_ltF, qu_gtT, qu_gtF, qu_geT, qu_geF, qu_leT, qu_leF, qu_eqT, qu_eqF, qu_neT, qu_neF, qu_inT, qu_24T, qu_24F, qu_116T, qu_116F, qu_13T, qu_13F, qu_25T, qu_25F, qu_26T, qu_26F, qu_117a, qu_117b, qu_117c, qu_117d, qu_10F, qu_00T, qu_n10, qu_n00, Option.bind_some, cond_true, cond_false, if_true, qv_tN]
    · refine ⟨0, _, qR_thr 2 h, Or.inr (Or.inr (Or.inl ⟨?_, ?_, rfl⟩))⟩
      · by_cases h3 : a2.toInt < 1
        · simp (disch := first | omega | assumption | decide) only [qf23, qf23_22, qf23_23, qu_ltT, qu_ltF, qu_gtT, qu_gtF, qu_geT, qu_geF, qu_leT, qu_leF, qu_eqT, qu_eqF, qu_neT, qu_neF, qu_inT, qu_24T, qu_24F, qu_116T, qu_116F, qu_13T, qu_13F, qu_25T, qu_25F, qu_26T, qu_26F, qu_117a, qu_117b, qu_117c, qu_117d, qu_10F, qu_00T, qu_n10, qu_n00, Option.bind_some, cond_true, cond_false, if_true, qv_tN]
        · simp (disch := first | omega | assumption | decide) only [qf23, qf23_22, qf23_23, qu_ltT, qu_ltF, qu_gtT, qu_gtF, qu_geT, qu_geF, qu_leT, qu_leF, qu_eqT, qu_eqF, qu_neT, qu_neF, qu_inT, qu_24T, qu_24F, qu_116T, qu_116F, qu_13T, qu_13F, qu_25T, qu_25F, qu_26T, qu_26F, qu_117a, qu_117b, qu_117c, qu_117d, qu_10F, qu_00T, qu_n10, qu_n00, Option.bind_some, cond_true, cond_false, if_true, qv_tN]
      · simp (disch := first | omega | assumption | decide) only [qf115, qu_ltT, qu_ltF, qu_gtT, qu_gtF, qu_geT, qu_geF, qu_leT, qu_leF, qu_eqT, qu_eqF, qu_neT, qu_neF, qu_inT, qu_24T, qu_24F, qu_116T, qu_116F, qu_13T, qu_13F, qu_25T, qu_25F, qu_26T, qu_26F, qu_117a, qu_117b, qu_117c, qu_117d, qu_10F, qu_00T, qu_n10, qu_n00, Option.bind_some, cond_true, cond_false, if_true, qv_tN]
  · refine ⟨0, _, qR_thr 1 h, Or.inr (Or.inl ⟨?_, ?_, rfl⟩)⟩
    · simp (disch := first | omega | assumption | decide) only [qf23, qu_ltT, qu_ltF, qu_gtT, qu_gtF, qu_geT, qu_geF, qu_leT, qu_leF, qu_eqT, qu_eqF, qu_neT, qu_neF, qu_inT, qu_24T, qu_24F, qu_116T, qu_116F, qu_13T, qu_13F, qu_25T, qu_25F, qu_26T, qu_26F, qu_117a, qu_117b, qu_117c, qu_117d, qu_10F, qu_00T, qu_n10, qu_n00, Option.bind_some, cond_true, cond_false, if_true, qv_tN]
    · by_cases h2 : 1 ≤ a2.toInt ∧ a2.toInt ≤ 200
      · simp (disch := first | omega | assumption | decide) only [qf115, qu_ltT, qu_ltF, qu_gtT, qu_gtF, qu_geT, qu_geF, qu_leT, qu_leF, qu_eqT, qu_eqF, qu_neT, qu_neF, qu_inT, qu_24T, qu_24F, qu_116T, qu_116F, qu_13T, qu_13F, qu_25T, qu_25F, qu_26T, qu_26F, qu_117a, qu_117b, qu_117c, qu_117d, qu_10F, qu_00T, qu_n10, qu_n00, Option.bind_some, cond_true, cond_false, if_true, qv_tN]
      · simp (disch := first | omega | assumption | decide) only [qf115, qu_ltT, qu_ltF, qu_gtT, qu_gtF, qu_geT, qu_geF, qu_leT, qu_leF, qu_eqT, qu_eqF, qu_neT, qu_neF, qu_inT, qu_24T, qu_24F, qu_116T, qu_116F, qu_13T, qu_13F, qu_25T, qu_25F, qu_26T, qu_26F, qu_117a, qu_117b, qu_117c, qu_117d, qu_10F, qu_00T, qu_n10, qu_n00, Option.bind_some, cond_true, cond_false, if_true, qv_tN]
