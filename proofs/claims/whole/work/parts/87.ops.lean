/-! code -/
theorem qo1 : qo_op1 qR := by
  rintro s a1 a2 ⟨r, T, B, c, n, h⟩
  have l0 : (0:Int32).toInt = 0 := rfl; have l1 : (1:Int32).toInt = 1 := rfl; have lm : (-1:Int32).toInt = -1 := rfl; have l3 : (3:Int32).toInt = 3 := rfl; have l4 : (4:Int32).toInt = 4 := rfl; have l5 : (5:Int32).toInt = 5 := rfl; have l6 : (6:Int32).toInt = 6 := rfl; have l7 : (7:Int32).toInt = 7 := rfl; have l8 : (8:Int32).toInt = 8 := rfl; have l15 : (15:Int32).toInt = 15 := rfl; have l16 : (16:Int32).toInt = 16 := rfl; have l32 : (32:Int32).toInt = 32 := rfl
  have k1 := h.2.2.2.2.2.2.2.2.1.1; have k2 := h.2.2.2.2.2.2.2.2.1.2.1
  by_cases h1 : 0 ≤ a1.toInt ∧ a1.toInt < 8
  · obtain ⟨i, hi, rfl⟩ := qv_ex (N := 8) h1.1 h1.2
    have ti := qv_tI i (by omega)
    obtain ⟨w, hw, e2⟩ := h.2.1.2.2 i hi
    have e1 : s 14 i 1 = Int32.ofNat w := (h.2.1.1 i).trans e2
    have tw := qv_tI w (by omega)
    by_cases h2 : w < 32
    · cases r with
      | false =>
        refine ⟨Int32.ofNat (w + 1), qp_up (qp_up (qp_up (qp_up (qp_up s 17 i w a2) 14 i 1 (Int32.ofNat (w + 1))) 30 0 0 0) 32 0 (32 * i + w) a2) 33 0 i (Int32.ofNat (w + 1)), ?_, Or.inl ⟨(Int32.ofNat (w + 1), qp_up (qp_up s 17 i w a2) 14 i 1 (Int32.ofNat (w + 1))), ?_, ?_, rfl, rfl⟩⟩
        · have hj := qu_J0 h
          obtain ⟨hB, hW, hS, hP, hM, hG, hD, hE, hK, hJ, hZ⟩ := h
          refine ⟨false, T, B, c, n, ⟨fun t => ?_, hB.2⟩, ⟨fun t => ?_, fun t j ht hj => ?_, fun t ht => ?_⟩, hS, hP, hM, hG, hD, hE, hK, fun t ht => Or.inl ?_, ⟨hZ.1, hZ.2.1, hZ.2.2.1, hZ.2.2.2.1, hZ.2.2.2.2.1, fun e => by cases e⟩⟩
          · simp (disch := first | omega | decide) only [qu_pk, qu_pj, qu_ps, qu_pi]; exact hB.1 t
          · by_cases e : t = i
            · subst e; simp (disch := first | omega | decide) only [qu_pk, qu_pj, qu_ps, qu_pi]
            · simp (disch := first | omega | decide) only [qu_pk, qu_pj, qu_ps, qu_pi]; exact hW.1 t
          · by_cases e : t = i
            · by_cases e7 : j = w
              · subst e; subst e7; simp (disch := first | omega | decide) only [qu_pk, qu_pj, qu_ps, qu_pi]
              · subst e; simp (disch := first | omega | decide) only [qu_pk, qu_pj, qu_ps, qu_pi]; exact hW.2.1 t j ht hj
            · simp (disch := first | omega | decide) only [qu_pk, qu_pj, qu_ps, qu_pi]; exact hW.2.1 t j ht hj
          · by_cases e : t = i
            · subst e; simp (disch := first | omega | decide) only [qu_pk, qu_pj, qu_ps, qu_pi]; exact ⟨w + 1, by omega, rfl⟩
            · simp (disch := first | omega | decide) only [qu_pk, qu_pj, qu_ps, qu_pi]; exact hW.2.2 t ht
          · have hl := qu_J0l (hj t ht)
            exact qu_J0c (hj t ht) rfl (by simp (disch := first | omega | decide) only [qu_pk, qu_pj, qu_ps, qu_pi]) (by simp (disch := first | omega | decide) only [qu_pk, qu_pj, qu_ps, qu_pi]) (by simp (disch := first | omega | decide) only [qu_pk, qu_pj, qu_ps, qu_pi]) (by simp (disch := first | omega | decide) only [qu_pk, qu_pj, qu_ps, qu_pi]) rfl (by simp (disch := first | omega | decide) only [qu_pk, qu_pj, qu_ps, qu_pi]) hl.1 hl.2
        · simp (disch := first | omega | assumption | decide) only [qf28, qf28_25, qf29, e1, qu_ltT, qu_ltF, qu_gtT, qu_gtF, qu_geT, qu_geF, qu_leT, qu_leF, qu_eqT, qu_eqF, qu_neT, qu_neF, qu_inT, qu_24T, qu_24F, qu_116T, qu_116F, qu_13T, qu_13F, qu_25T, qu_25F, qu_26T, qu_26F, qu_117a, qu_117b, qu_117c, qu_117d, qu_10F, qu_00T, qu_n10, qu_n00, Option.bind_some, cond_true, cond_false, if_true, qv_tN, qv_c6, qv_c4, qv_c8, qv_c32, qv_d4, qv_d16, qv_f4, qv_a1, qv_a2, qv_a3, qv_add, qv_inT, qu_ps, qu_pk]
        · have k3 : (qp_up (qp_up s 17 i w a2) 14 i 1 (Int32.ofNat (w + 1))) 30 0 20 = qv_b false := k2
          have e3 : (qp_up (qp_up s 17 i w a2) 14 i 1 (Int32.ofNat (w + 1))) 33 0 i = Int32.ofNat w := e2
          have e4 : (qp_up (qp_up (qp_up s 17 i w a2) 14 i 1 (Int32.ofNat (w + 1))) 30 0 0 0) 33 0 i = Int32.ofNat w := e2
          simp (disch := first | omega | assumption | decide) only [qf118, qf118_30, qf118_25, e3, e4, qu_ltT, qu_ltF, qu_gtT, qu_gtF, qu_geT, qu_geF, qu_leT, qu_leF, qu_eqT, qu_eqF, qu_neT, qu_neF, qu_inT, qu_24T, qu_24F, qu_116T, qu_116F, qu_13T, qu_13F, qu_25T, qu_25F, qu_26T, qu_26F, qu_117a, qu_117b, qu_117c, qu_117d, qu_10F, qu_00T, qu_n10, qu_n00, Option.bind_some, cond_true, cond_false, if_true, qv_tN, qv_c6, qv_c4, qv_c8, qv_c32, qv_d4, qv_d16, qv_f4, qv_a1, qv_a2, qv_a3, qv_add, qv_inT, qu_ps, qu_pk]
      | true =>
        refine ⟨0, _, qR_thr 3 h, Or.inr (Or.inr (Or.inr ⟨?_, ?_, rfl⟩))⟩
        · simp (disch := first | omega | assumption | decide) only [qf28, qf28_25, e1, qu_ltT, qu_ltF, qu_gtT, qu_gtF, qu_geT, qu_geF, qu_leT, qu_leF, qu_eqT, qu_eqF, qu_neT, qu_neF, qu_inT, qu_24T, qu_24F, qu_116T, qu_116F, qu_13T, qu_13F, qu_25T, qu_25F, qu_26T, qu_26F, qu_117a, qu_117b, qu_117c, qu_117d, qu_10F, qu_00T, qu_n10, qu_n00, Option.bind_some, cond_true, cond_false, if_true, qv_tN, qv_c6, qv_c4, qv_c8, qv_c32, qv_d4, qv_d16, qv_f4, qv_a1, qv_a2, qv_a3, qv_add, qv_inT]
        · simp (disch := first | omega | assumption | decide) only [qf118, qf118_30, qf118_25, e2, qu_ltT, qu_ltF, qu_gtT, qu_gtF, qu_geT, qu_geF, qu_leT, qu_leF, qu_eqT, qu_eqF, qu_neT, qu_neF, qu_inT, qu_24T, qu_24F, qu_116T, qu_116F, qu_13T, qu_13F, qu_25T, qu_25F, qu_26T, qu_26F, qu_117a, qu_117b, qu_117c, qu_117d, qu_10F, qu_00T, qu_n10, qu_n00, Option.bind_some, cond_true, cond_false, if_true, qv_tN, qv_c6, qv_c4, qv_c8, qv_c32, qv_d4, qv_d16, qv_f4, qv_a1, qv_a2, qv_a3, qv_add, qv_inT]
    · refine ⟨0, _, qR_thr 2 h, Or.inr (Or.inr (Or.inl ⟨?_, ?_, rfl⟩))⟩
      · simp (disch := first | omega | assumption | decide) only [qf28, qf28_25, e1, qu_ltT, qu_ltF, qu_gtT, qu_gtF, qu_geT, qu_geF, qu_leT, qu_leF, qu_eqT, qu_eqF, qu_neT, qu_neF, qu_inT, qu_24T, qu_24F, qu_116T, qu_116F, qu_13T, qu_13F, qu_25T, qu_25F, qu_26T, qu_26F, qu_117a, qu_117b, qu_117c, qu_117d, qu_10F, qu_00T, qu_n10, qu_n00, Option.bind_some, cond_true, cond_false, if_true, qv_tN, qv_c6, qv_c4, qv_c8, qv_c32, qv_d4, qv_d16, qv_f4, qv_a1, qv_a2, qv_a3, qv_add, qv_inT]
      · simp (disch := first | omega | assumption | decide) only [qf118, qf118_30, qf118_25, e2, qu_ltT, qu_ltF, qu_gtT, qu_gtF, qu_geT, qu_geF, qu_leT, qu_leF, qu_eqT, qu_eqF, qu_neT, qu_neF, qu_inT, qu_24T, qu_24F, qu_116T, qu_116F, qu_13T, qu_13F, qu_25T, qu_25F, qu_26T, qu_26F, qu_117a, qu_117b, qu_117c, qu_117d, qu_10F, qu_00T, qu_n10, qu_n00, Option.bind_some, cond_true, cond_false, if_true, qv_tN, qv_c6, qv_c4, qv_c8, qv_c32, qv_d4, qv_d16, qv_f4, qv_a1, qv_a2, qv_a3, qv_add, qv_inT]
  · refine ⟨0, _, qR_thr 1 h, Or.inr (Or.inl ⟨?_, ?_, rfl⟩)⟩
    · simp (disch := first | omega | assumption | decide) only [qf28, qu_ltT, qu_ltF, qu_gtT, qu_gtF, qu_geT, qu_geF, qu_leT, qu_leF, qu_eqT, qu_eqF, qu_neT, qu_neF, qu_inT, qu_24T, qu_24F, qu_116T, qu_116F, qu_13T, qu_13F, qu_25T, qu_25F, qu_26T, qu_26F, qu_117a, qu_117b, qu_117c, qu_117d, qu_10F, qu_00T, qu_n10, qu_n00, Option.bind_some, cond_true, cond_false, if_true, qv_tN]
    · simp (disch := first | omega | assumption | decide) only [qf118, qf118_25, qf118_30, qu_ltT, qu_ltF, qu_gtT, qu_gtF, qu_geT, qu_geF, qu_leT, qu_leF, qu_eqT, qu_eqF, qu_neT, qu_neF, qu_inT, qu_24T, qu_24F, qu_116T, qu_116F, qu_13T, qu_13F, qu_25T, qu_25F, qu_26T, qu_26F, qu_117a, qu_117b, qu_117c, qu_117d, qu_10F, qu_00T, qu_n10, qu_n00, Option.bind_some, cond_true, cond_false, if_true, qv_tN]
/-! wire -/
theorem qu_3 {a : Int32} (h : -1 ≤ a.toInt ∧ a.toInt ≤ 1) : a = -1 ∨ a = 0 ∨ a = 1 := by
  have : a.toInt = -1 ∨ a.toInt = 0 ∨ a.toInt = 1 := by omega
  rcases this with e | e | e
  · exact Or.inl (Int32.toInt_inj.mp e)
  · exact Or.inr (Or.inl (Int32.toInt_inj.mp e))
  · exact Or.inr (Or.inr (Int32.toInt_inj.mp e))
theorem qu_120 {a1 a2 a3 a4 : Int32} {s : qp_S} (h : ¬ ((0 ≤ a1.toInt ∧ a1.toInt < 8) ∧ (0 ≤ a2.toInt ∧ a2.toInt < 6) ∧ (0 ≤ a3.toInt ∧ a3.toInt < 16))) : qf120 a1 a2 a3 a4 s = some (0, qp_up s 30 0 0 1) := by
  have l0 : (0:Int32).toInt = 0 := rfl; have l1 : (1:Int32).toInt = 1 := rfl; have lm : (-1:Int32).toInt = -1 := rfl; have l3 : (3:Int32).toInt = 3 := rfl; have l4 : (4:Int32).toInt = 4 := rfl; have l5 : (5:Int32).toInt = 5 := rfl; have l6 : (6:Int32).toInt = 6 := rfl; have l7 : (7:Int32).toInt = 7 := rfl; have l8 : (8:Int32).toInt = 8 := rfl; have l15 : (15:Int32).toInt = 15 := rfl; have l16 : (16:Int32).toInt = 16 := rfl; have l32 : (32:Int32).toInt = 32 := rfl
  have e : qf120_35 a1 a2 a3 a4 0 s = some (0, qp_up s 30 0 0 1) := by
    by_cases h4 : -1 ≤ a4.toInt ∧ a4.toInt ≤ 1
    · simp (disch := first | omega | assumption | decide) only [qf120_35, qu_ltT, qu_ltF, qu_gtT, qu_gtF, qu_geT, qu_geF, qu_leT, qu_leF, qu_eqT, qu_eqF, qu_neT, qu_neF, qu_inT, qu_24T, qu_24F, qu_116T, qu_116F, qu_13T, qu_13F, qu_25T, qu_25F, qu_26T, qu_26F, qu_117a, qu_117b, qu_117c, qu_117d, qu_10F, qu_00T, qu_n10, qu_n00, Option.bind_some, cond_true, cond_false, if_true, qv_tN]
    · simp (disch := first | omega | assumption | decide) only [qf120_35, qu_ltT, qu_ltF, qu_gtT, qu_gtF, qu_geT, qu_geF, qu_leT, qu_leF, qu_eqT, qu_eqF, qu_neT, qu_neF, qu_inT, qu_24T, qu_24F, qu_116T, qu_116F, qu_13T, qu_13F, qu_25T, qu_25F, qu_26T, qu_26F, qu_117a, qu_117b, qu_117c, qu_117d, qu_10F, qu_00T, qu_n10, qu_n00, Option.bind_some, cond_true, cond_false, if_true, qv_tN]
  by_cases h1 : 0 ≤ a1.toInt ∧ a1.toInt < 8
  · by_cases h2 : 0 ≤ a2.toInt ∧ a2.toInt < 6
    · by_cases h3 : 0 ≤ a3.toInt ∧ a3.toInt < 16
      · exact absurd ⟨h1, h2, h3⟩ h
      · simp (disch := first | omega | assumption | decide) only [qf120, qf120_34, qu_ltT, qu_ltF, qu_gtT, qu_gtF, qu_geT, qu_geF, qu_leT, qu_leF, qu_eqT, qu_eqF, qu_neT, qu_neF, qu_inT, qu_24T, qu_24F, qu_116T, qu_116F, qu_13T, qu_13F, qu_25T, qu_25F, qu_26T, qu_26F, qu_117a, qu_117b, qu_117c, qu_117d, qu_10F, qu_00T, qu_n10, qu_n00, Option.bind_some, cond_true, cond_false, if_true, qv_tN, e]
    · simp (disch := first | omega | assumption | decide) only [qf120, qf120_34, qu_ltT, qu_ltF, qu_gtT, qu_gtF, qu_geT, qu_geF, qu_leT, qu_leF, qu_eqT, qu_eqF, qu_neT, qu_neF, qu_inT, qu_24T, qu_24F, qu_116T, qu_116F, qu_13T, qu_13F, qu_25T, qu_25F, qu_26T, qu_26F, qu_117a, qu_117b, qu_117c, qu_117d, qu_10F, qu_00T, qu_n10, qu_n00, Option.bind_some, cond_true, cond_false, if_true, qv_tN, e]
  · simp (disch := first | omega | assumption | decide) only [qf120, qf120_34, qu_ltT, qu_ltF, qu_gtT, qu_gtF, qu_geT, qu_geF, qu_leT, qu_leF, qu_eqT, qu_eqF, qu_neT, qu_neF, qu_inT, qu_24T, qu_24F, qu_116T, qu_116F, qu_13T, qu_13F, qu_25T, qu_25F, qu_26T, qu_26F, qu_117a, qu_117b, qu_117c, qu_117d, qu_10F, qu_00T, qu_n10, qu_n00, Option.bind_some, cond_true, cond_false, if_true, qv_tN, e]
theorem qu_33 {a1 a2 a3 a4 : Int32} {s : qp_S} (h1 : 0 ≤ a1.toInt ∧ a1.toInt < 8) (h2 : 0 ≤ a2.toInt ∧ a2.toInt < 6) (h3 : 0 ≤ a3.toInt ∧ a3.toInt < 16) (h : -1 ≤ a4.toInt ∧ a4.toInt ≤ 1) : qf33 a1 a2 a3 a4 s = qf33_40 a1 a2 a3 a4 1 s := by
  have l0 : (0:Int32).toInt = 0 := rfl; have l1 : (1:Int32).toInt = 1 := rfl; have lm : (-1:Int32).toInt = -1 := rfl; have l3 : (3:Int32).toInt = 3 := rfl; have l4 : (4:Int32).toInt = 4 := rfl; have l5 : (5:Int32).toInt = 5 := rfl; have l6 : (6:Int32).toInt = 6 := rfl; have l7 : (7:Int32).toInt = 7 := rfl; have l8 : (8:Int32).toInt = 8 := rfl; have l15 : (15:Int32).toInt = 15 := rfl; have l16 : (16:Int32).toInt = 16 := rfl; have l32 : (32:Int32).toInt = 32 := rfl
  rcases qu_3 h with e | e | e
  · subst e; simp (disch := first | omega | assumption | decide) only [qf33, qf33_35, qu_ltT, qu_ltF, qu_gtT, qu_gtF, qu_geT, qu_geF, qu_leT, qu_leF, qu_eqT, qu_eqF, qu_neT, qu_neF, qu_inT, qu_24T, qu_24F, qu_116T, qu_116F, qu_13T, qu_13F, qu_25T, qu_25F, qu_26T, qu_26F, qu_117a, qu_117b, qu_117c, qu_117d, qu_10F, qu_00T, qu_n10, qu_n00, Option.bind_some, cond_true, cond_false, if_true, qv_tN]
  · subst e; simp (disch := first | omega | assumption | decide) only [qf33, qf33_35, qu_ltT, qu_ltF, qu_gtT, qu_gtF, qu_geT, qu_geF, qu_leT, qu_leF, qu_eqT, qu_eqF, qu_neT, qu_neF, qu_inT, qu_24T, qu_24F, qu_116T, qu_116F, qu_13T, qu_13F, qu_25T, qu_25F, qu_26T, qu_26F, qu_117a, qu_117b, qu_117c, qu_117d, qu_10F, qu_00T, qu_n10, qu_n00, Option.bind_some, cond_true, cond_false, if_true, qv_tN]
  · subst e; simp (disch := first | omega | assumption | decide) only [qf33, qf33_35, qu_ltT, qu_ltF, qu_gtT, qu_gtF, qu_geT, qu_geF, qu_leT, qu_leF, qu_eqT, qu_eqF, qu_neT, qu_neF, qu_inT, qu_24T, qu_24F, qu_116T, qu_116F, qu_13T, qu_13F, qu_25T, qu_25F, qu_26T, qu_26F, qu_117a, qu_117b, qu_117c, qu_117d, qu_10F, qu_00T, qu_n10, qu_n00, Option.bind_some, cond_true, cond_false, if_true, qv_tN]
theorem qo3 : qo_op3 qR := by
  rintro s a1 a2 a3 a4 ⟨r, T, B, c, n, h⟩
  have l0 : (0:Int32).toInt = 0 := rfl; have l1 : (1:Int32).toInt = 1 := rfl; have lm : (-1:Int32).toInt = -1 := rfl; have l3 : (3:Int32).toInt = 3 := rfl; have l4 : (4:Int32).toInt = 4 := rfl; have l5 : (5:Int32).toInt = 5 := rfl; have l6 : (6:Int32).toInt = 6 := rfl; have l7 : (7:Int32).toInt = 7 := rfl; have l8 : (8:Int32).toInt = 8 := rfl; have l15 : (15:Int32).toInt = 15 := rfl; have l16 : (16:Int32).toInt = 16 := rfl; have l32 : (32:Int32).toInt = 32 := rfl
  have k1 := h.2.2.2.2.2.2.2.2.1.1; have k2 := h.2.2.2.2.2.2.2.2.1.2.1
  by_cases h0 : (0 ≤ a1.toInt ∧ a1.toInt < 8) ∧ (0 ≤ a2.toInt ∧ a2.toInt < 6) ∧ (0 ≤ a3.toInt ∧ a3.toInt < 16)
  · obtain ⟨h1, h1', h1''⟩ := h0
    obtain ⟨i, hi, rfl⟩ := qv_ex (N := 8) h1.1 h1.2
    have ti := qv_tI i (by omega)
    obtain ⟨j, hj, rfl⟩ := qv_ex (N := 6) h1'.1 h1'.2
    have tj := qv_tI j (by omega)
    obtain ⟨p, hp, rfl⟩ := qv_ex (N := 16) h1''.1 h1''.2
    have tp := qv_tI p (by omega)
    by_cases h2 : -1 ≤ a4.toInt ∧ a4.toInt ≤ 1
    · cases r with
      | false =>
        have hpe := (h.2.2.2.1 p).2.2.1
        obtain ⟨v, hv, hv1⟩ : ∃ v, v = (if a4 = 1 then s 40 0 p else 0) ∧ (a4 = -1 → v = 0) := ⟨_, rfl, fun e => by subst e; rfl⟩
        refine ⟨0, qp_up (qp_up (qp_up (qp_up (qp_up (qp_up (qp_up s 16 (6 * i + j) 0 a4) 16 (6 * i + j) 1 (Int32.ofNat p)) 16 (6 * i + j) 2 v) 30 0 0 0) 34 0 (6 * i + j) a4) 35 0 (6 * i + j) (Int32.ofNat p)) 36 0 (6 * i + j) v, ?_, Or.inl ⟨(0, qp_up (qp_up (qp_up s 16 (6 * i + j) 0 a4) 16 (6 * i + j) 1 (Int32.ofNat p)) 16 (6 * i + j) 2 v), ?_, ?_, rfl⟩⟩
        · have hj0 := qu_J0 h
          obtain ⟨hB, hW, hS, hP, hM, hG, hD, hE, hK, hJ, hZ⟩ := h
          refine ⟨false, T, B, c, n, hB, hW, ⟨fun k => ?_, fun k => ?_, fun k hk => ?_, fun k hk => ?_⟩, hP, hM, hG, hD, hE, hK, fun t ht => Or.inl ?_, ⟨hZ.1, hZ.2.1, hZ.2.2.1, hZ.2.2.2.1, hZ.2.2.2.2.1, fun e => by cases e⟩⟩
          · by_cases e : k = 6 * i + j
            · subst e; simp (disch := first | omega | decide) only [qu_pk, qu_pj, qu_ps, qu_pi]
            · simp (disch := first | omega | decide) only [qu_pk, qu_pj, qu_ps, qu_pi]; exact hS.1 k
          · by_cases e : k = 6 * i + j
            · subst e; simp (disch := first | omega | decide) only [qu_pk, qu_pj, qu_ps, qu_pi]
            · simp (disch := first | omega | decide) only [qu_pk, qu_pj, qu_ps, qu_pi]; exact hS.2.1 k
          · by_cases e : k = 6 * i + j
            · subst e; simp (disch := first | omega | decide) only [qu_pk, qu_pj, qu_ps, qu_pi]; exact ⟨qu_3 h2, p, hp, rfl⟩
            · simp (disch := first | omega | decide) only [qu_pk, qu_pj, qu_ps, qu_pi]; exact hS.2.2.1 k hk
          · by_cases e : k = 6 * i + j
            · subst e; simp (disch := first | omega | decide) only [qu_pk, qu_pj, qu_ps, qu_pi]; exact hv1
            · simp (disch := first | omega | decide) only [qu_pk, qu_pj, qu_ps, qu_pi]; exact hS.2.2.2 k hk
          · have hl := qu_J0l (hj0 t ht)
            refine qu_J0c (hj0 t ht) rfl rfl rfl rfl rfl rfl rfl hl.1 (fun l hll => ?_)
            by_cases e : 6 * t + l = 6 * i + j
            · rw [e]; simp (disch := first | omega | decide) only [qu_pk, qu_pj, qu_ps, qu_pi]
            · simp (disch := first | omega | decide) only [qu_pk, qu_pj, qu_ps, qu_pi]; exact hl.2 l hll
        · rw [qu_33 h1 h1' h1'' h2]
          by_cases e : a4 = 1
          · subst e
            rw [if_pos rfl] at hv
            simp (disch := first | omega | assumption | decide) only [qf33_40, qf34, hpe, hv, qu_ltT, qu_ltF, qu_gtT, qu_gtF, qu_geT, qu_geF, qu_leT, qu_leF, qu_eqT, qu_eqF, qu_neT, qu_neF, qu_inT, qu_24T, qu_24F, qu_116T, qu_116F, qu_13T, qu_13F, qu_25T, qu_25F, qu_26T, qu_26F, qu_117a, qu_117b, qu_117c, qu_117d, qu_10F, qu_00T, qu_n10, qu_n00, Option.bind_some, cond_true, cond_false, if_true, qv_tN, qv_c6, qv_c4, qv_c8, qv_c32, qv_d4, qv_d16, qv_f4, qv_a1, qv_a2, qv_a3, qv_add, qv_inT]
          · rw [if_neg e] at hv
            simp (disch := first | omega | assumption | decide) only [qf33_40, qf34, qv_ne, e, hv, not_false_eq_true, decide_true, qu_ltT, qu_ltF, qu_gtT, qu_gtF, qu_geT, qu_geF, qu_leT, qu_leF, qu_eqT, qu_eqF, qu_neT, qu_neF, qu_inT, qu_24T, qu_24F, qu_116T, qu_116F, qu_13T, qu_13F, qu_25T, qu_25F, qu_26T, qu_26F, qu_117a, qu_117b, qu_117c, qu_117d, qu_10F, qu_00T, qu_n10, qu_n00, Option.bind_some, cond_true, cond_false, if_true, qv_tN, qv_c6, qv_c4, qv_c8, qv_c32, qv_d4, qv_d16, qv_f4, qv_a1, qv_a2, qv_a3, qv_add, qv_inT]
        · have k3 : (qp_up (qp_up (qp_up s 16 (6 * i + j) 0 a4) 16 (6 * i + j) 1 (Int32.ofNat p)) 16 (6 * i + j) 2 v) 30 0 20 = qv_b false := k2
          have tij := qv_tI (6 * i + j) (by omega)
          by_cases e : a4 = 1
          · subst e
            rw [if_pos rfl] at hv
            subst hv
            simp (disch := first | omega | assumption | decide) only [qf120, qf120_35, qu_ltT, qu_ltF, qu_gtT, qu_gtF, qu_geT, qu_geF, qu_leT, qu_leF, qu_eqT, qu_eqF, qu_neT, qu_neF, qu_inT, qu_24T, qu_24F, qu_116T, qu_116F, qu_13T, qu_13F, qu_25T, qu_25F, qu_26T, qu_26F, qu_117a, qu_117b, qu_117c, qu_117d, qu_10F, qu_00T, qu_n10, qu_n00, Option.bind_some, cond_true, cond_false, if_true, qv_tN, qv_c6, qv_c4, qv_c8, qv_c32, qv_d4, qv_d16, qv_f4, qv_a1, qv_a2, qv_a3, qv_add, qv_inT, qu_pk]
          · rw [if_neg e] at hv
            have e' : qm_cmp .ne a4 1 = true := by rw [qv_ne]; exact decide_eq_true e
            subst hv
            simp (disch := first | omega | assumption | decide) only [qf120, qf120_35, e', qu_ltT, qu_ltF, qu_gtT, qu_gtF, qu_geT, qu_geF, qu_leT, qu_leF, qu_eqT, qu_eqF, qu_neT, qu_neF, qu_inT, qu_24T, qu_24F, qu_116T, qu_116F, qu_13T, qu_13F, qu_25T, qu_25F, qu_26T, qu_26F, qu_117a, qu_117b, qu_117c, qu_117d, qu_10F, qu_00T, qu_n10, qu_n00, Option.bind_some, cond_true, cond_false, if_true, qv_tN, qv_c6, qv_c4, qv_c8, qv_c32, qv_d4, qv_d16, qv_f4, qv_a1, qv_a2, qv_a3, qv_add, qv_inT, qu_pk]
      | true =>
        refine ⟨0, _, qR_thr 3 h, Or.inr (Or.inr (Or.inr ⟨?_, ?_, rfl⟩))⟩
        · rw [qu_33 h1 h1' h1'' h2]
          simp (disch := first | omega | assumption | decide) only [qf33_40, qu_ltT, qu_ltF, qu_gtT, qu_gtF, qu_geT, qu_geF, qu_leT, qu_leF, qu_eqT, qu_eqF, qu_neT, qu_neF, qu_inT, qu_24T, qu_24F, qu_116T, qu_116F, qu_13T, qu_13F, qu_25T, qu_25F, qu_26T, qu_26F, qu_117a, qu_117b, qu_117c, qu_117d, qu_10F, qu_00T, qu_n10, qu_n00, Option.bind_some, cond_true, cond_false, if_true, qv_tN, qv_c6, qv_c4, qv_c8, qv_c32, qv_d4, qv_d16, qv_f4, qv_a1, qv_a2, qv_a3, qv_add, qv_inT]
        · simp (disch := first | omega | assumption | decide) only [qf120, qf120_35, qu_ltT, qu_ltF, qu_gtT, qu_gtF, qu_geT, qu_geF, qu_leT, qu_leF, qu_eqT, qu_eqF, qu_neT, qu_neF, qu_inT, qu_24T, qu_24F, qu_116T, qu_116F, qu_13T, qu_13F, qu_25T, qu_25F, qu_26T, qu_26F, qu_117a, qu_117b, qu_117c, qu_117d, qu_10F, qu_00T, qu_n10, qu_n00, Option.bind_some, cond_true, cond_false, if_true, qv_tN, qv_c6, qv_c4, qv_c8, qv_c32, qv_d4, qv_d16, qv_f4, qv_a1, qv_a2, qv_a3, qv_add, qv_inT]
    · refine ⟨0, _, qR_thr 2 h, Or.inr (Or.inr (Or.inl ⟨?_, ?_, rfl⟩))⟩
      · simp (disch := first | omega | assumption | decide) only [qf33, qf33_40, qu_ltT, qu_ltF, qu_gtT, qu_gtF, qu_geT, qu_geF, qu_leT, qu_leF, qu_eqT, qu_eqF, qu_neT, qu_neF, qu_inT, qu_24T, qu_24F, qu_116T, qu_116F, qu_13T, qu_13F, qu_25T, qu_25F, qu_26T, qu_26F, qu_117a, qu_117b, qu_117c, qu_117d, qu_10F, qu_00T, qu_n10, qu_n00, Option.bind_some, cond_true, cond_false, if_true, qv_tN, qv_c6, qv_c4, qv_c8, qv_c32, qv_d4, qv_d16, qv_f4, qv_a1, qv_a2, qv_a3, qv_add, qv_inT]
      · simp (disch := first | omega | assumption | decide) only [qf120, qf120_35, qu_ltT, qu_ltF, qu_gtT, qu_gtF, qu_geT, qu_geF, qu_leT, qu_leF, qu_eqT, qu_eqF, qu_neT, qu_neF, qu_inT, qu_24T, qu_24F, qu_116T, qu_116F, qu_13T, qu_13F, qu_25T, qu_25F, qu_26T, qu_26F, qu_117a, qu_117b, qu_117c, qu_117d, qu_10F, qu_00T, qu_n10, qu_n00, Option.bind_some, cond_true, cond_false, if_true, qv_tN, qv_c6, qv_c4, qv_c8, qv_c32, qv_d4, qv_d16, qv_f4, qv_a1, qv_a2, qv_a3, qv_add, qv_inT]
  · refine ⟨0, _, qR_thr 1 h, Or.inr (Or.inl ⟨?_, qu_120 h0, rfl⟩)⟩
    by_cases h1 : 0 ≤ a1.toInt ∧ a1.toInt < 8
    · by_cases h2 : 0 ≤ a2.toInt ∧ a2.toInt < 6
      · by_cases h3 : 0 ≤ a3.toInt ∧ a3.toInt < 16
        · exact absurd ⟨h1, h2, h3⟩ h0
        · simp (disch := first | omega | assumption | decide) only [qf33, qu_ltT, qu_ltF, qu_gtT, qu_gtF, qu_geT, qu_geF, qu_leT, qu_leF, qu_eqT, qu_eqF, qu_neT, qu_neF, qu_inT, qu_24T, qu_24F, qu_116T, qu_116F, qu_13T, qu_13F, qu_25T, qu_25F, qu_26T, qu_26F, qu_117a, qu_117b, qu_117c, qu_117d, qu_10F, qu_00T, qu_n10, qu_n00, Option.bind_some, cond_true, cond_false, if_true, qv_tN]
      · simp (disch := first | omega | assumption | decide) only [qf33, qu_ltT, qu_ltF, qu_gtT, qu_gtF, qu_geT, qu_geF, qu_leT, qu_leF, qu_eqT, qu_eqF, qu_neT, qu_neF, qu_inT, qu_24T, qu_24F, qu_116T, qu_116F, qu_13T, qu_13F, qu_25T, qu_25F, qu_26T, qu_26F, qu_117a, qu_117b, qu_117c, qu_117d, qu_10F, qu_00T, qu_n10, qu_n00, Option.bind_some, cond_true, cond_false, if_true, qv_tN]
    · simp (disch := first | omega | assumption | decide) only [qf33, qu_ltT, qu_ltF, qu_gtT, qu_gtF, qu_geT, qu_geF, qu_leT, qu_leF, qu_eqT, qu_eqF, qu_neT, qu_neF, qu_inT, qu_24T, qu_24F, qu_116T, qu_116F, qu_13T, qu_13F, qu_25T, qu_25F, qu_26T, qu_26F, qu_117a, qu_117b, qu_117c, qu_117d, qu_10F, qu_00T, qu_n10, qu_n00, Option.bind_some, cond_true, cond_false, if_true, qv_tN]
