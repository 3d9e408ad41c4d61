/-! guard -/
theorem qu_41T {a : Int32} {s : qp_S} (h : 0 ≤ a.toInt ∧ a.toInt ≤ 5) : qf41 a s = some 1 := by
  have l0 : (0:Int32).toInt = 0 := rfl; have l1 : (1:Int32).toInt = 1 := rfl; have lm : (-1:Int32).toInt = -1 := rfl; have l3 : (3:Int32).toInt = 3 := rfl; have l4 : (4:Int32).toInt = 4 := rfl; have l5 : (5:Int32).toInt = 5 := rfl; have l6 : (6:Int32).toInt = 6 := rfl; have l7 : (7:Int32).toInt = 7 := rfl; have l8 : (8:Int32).toInt = 8 := rfl; have l15 : (15:Int32).toInt = 15 := rfl; have l16 : (16:Int32).toInt = 16 := rfl; have l32 : (32:Int32).toInt = 32 := rfl
  simp (disch := first | omega | assumption | decide) only [qf41, qu_ltT, qu_ltF, qu_gtT, qu_gtF, qu_geT, qu_geF, qu_leT, qu_leF, qu_eqT, qu_eqF, qu_neT, qu_neF, qu_inT, qu_24T, qu_24F, qu_116T, qu_116F, qu_13T, qu_13F, qu_25T, qu_25F, qu_26T, qu_26F, qu_117a, qu_117b, qu_117c, qu_117d, qu_10F, qu_00T, qu_n10, qu_n00, Option.bind_some, cond_true, cond_false, if_true, qv_tN]
theorem qu_41F {a : Int32} {s : qp_S} (h : ¬ (0 ≤ a.toInt ∧ a.toInt ≤ 5)) : qf41 a s = some 0 := by
  have l0 : (0:Int32).toInt = 0 := rfl; have l1 : (1:Int32).toInt = 1 := rfl; have lm : (-1:Int32).toInt = -1 := rfl; have l3 : (3:Int32).toInt = 3 := rfl; have l4 : (4:Int32).toInt = 4 := rfl; have l5 : (5:Int32).toInt = 5 := rfl; have l6 : (6:Int32).toInt = 6 := rfl; have l7 : (7:Int32).toInt = 7 := rfl; have l8 : (8:Int32).toInt = 8 := rfl; have l15 : (15:Int32).toInt = 15 := rfl; have l16 : (16:Int32).toInt = 16 := rfl; have l32 : (32:Int32).toInt = 32 := rfl
  by_cases e : a.toInt < 0
  · simp (disch := first | omega | assumption | decide) only [qf41, qu_ltT, qu_ltF, qu_gtT, qu_gtF, qu_geT, qu_geF, qu_leT, qu_leF, qu_eqT, qu_eqF, qu_neT, qu_neF, qu_inT, qu_24T, qu_24F, qu_116T, qu_116F, qu_13T, qu_13F, qu_25T, qu_25F, qu_26T, qu_26F, qu_117a, qu_117b, qu_117c, qu_117d, qu_10F, qu_00T, qu_n10, qu_n00, Option.bind_some, cond_true, cond_false, if_true, qv_tN]
  · simp (disch := first | omega | assumption | decide) only [qf41, qu_ltT, qu_ltF, qu_gtT, qu_gtF, qu_geT, qu_geF, qu_leT, qu_leF, qu_eqT, qu_eqF, qu_neT, qu_neF, qu_inT, qu_24T, qu_24F, qu_116T, qu_116F, qu_13T, qu_13F, qu_25T, qu_25F, qu_26T, qu_26F, qu_117a, qu_117b, qu_117c, qu_117d, qu_10F, qu_00T, qu_n10, qu_n00, Option.bind_some, cond_true, cond_false, if_true, qv_tN]
theorem qu_123_34 {a1 a2 a3 a4 a5 : Int32} {s : qp_S} : qf123_34 a1 a2 a3 a4 a5 0 s = some (0, qp_up s 30 0 0 1) := by
  have l0 : (0:Int32).toInt = 0 := rfl; have l1 : (1:Int32).toInt = 1 := rfl; have lm : (-1:Int32).toInt = -1 := rfl; have l3 : (3:Int32).toInt = 3 := rfl; have l4 : (4:Int32).toInt = 4 := rfl; have l5 : (5:Int32).toInt = 5 := rfl; have l6 : (6:Int32).toInt = 6 := rfl; have l7 : (7:Int32).toInt = 7 := rfl; have l8 : (8:Int32).toInt = 8 := rfl; have l15 : (15:Int32).toInt = 15 := rfl; have l16 : (16:Int32).toInt = 16 := rfl; have l32 : (32:Int32).toInt = 32 := rfl
  by_cases h : 0 ≤ a3.toInt ∧ a3.toInt ≤ 5
  · simp (disch := first | omega | assumption | decide) only [qf123_34, qf123_63, qf123_67, qf123_68, qu_ltT, qu_ltF, qu_gtT, qu_gtF, qu_geT, qu_geF, qu_leT, qu_leF, qu_eqT, qu_eqF, qu_neT, qu_neF, qu_inT, qu_24T, qu_24F, qu_116T, qu_116F, qu_13T, qu_13F, qu_25T, qu_25F, qu_26T, qu_26F, qu_117a, qu_117b, qu_117c, qu_117d, qu_10F, qu_00T, qu_n10, qu_n00, Option.bind_some, cond_true, cond_false, if_true, qv_tN]
  · simp (disch := first | omega | assumption | decide) only [qf123_34, qf123_63, qf123_67, qf123_68, qu_ltT, qu_ltF, qu_gtT, qu_gtF, qu_geT, qu_geF, qu_leT, qu_leF, qu_eqT, qu_eqF, qu_neT, qu_neF, qu_inT, qu_24T, qu_24F, qu_116T, qu_116F, qu_13T, qu_13F, qu_25T, qu_25F, qu_26T, qu_26F, qu_117a, qu_117b, qu_117c, qu_117d, qu_10F, qu_00T, qu_n10, qu_n00, Option.bind_some, cond_true, cond_false, if_true, qv_tN]
def qu_gd (s : qp_S) (k a b c d : Nat) (v1 v2 v3 v4 : Int32) : qp_S := qp_up (qp_up (qp_up (qp_up s k 0 a v1) k 0 b v2) k 0 c v3) k 0 d v4
theorem qo6 : qo_op6 qR := by
  rintro s a1 a2 a3 a4 a5 ⟨r, T, B, c, n, h⟩
  have l0 : (0:Int32).toInt = 0 := rfl; have l1 : (1:Int32).toInt = 1 := rfl; have lm : (-1:Int32).toInt = -1 := rfl; have l3 : (3:Int32).toInt = 3 := rfl; have l4 : (4:Int32).toInt = 4 := rfl; have l5 : (5:Int32).toInt = 5 := rfl; have l6 : (6:Int32).toInt = 6 := rfl; have l7 : (7:Int32).toInt = 7 := rfl; have l8 : (8:Int32).toInt = 8 := rfl; have l15 : (15:Int32).toInt = 15 := rfl; have l16 : (16:Int32).toInt = 16 := rfl; have l32 : (32:Int32).toInt = 32 := rfl
  have k1 := h.2.2.2.2.2.2.2.2.1.1; have k2 := h.2.2.2.2.2.2.2.2.1.2.1
  by_cases h0 : (0 ≤ a1.toInt ∧ a1.toInt < 4) ∧ (0 ≤ a2.toInt ∧ a2.toInt < 16) ∧ (0 ≤ a5.toInt ∧ a5.toInt < 4)
  · obtain ⟨h1, h1', h1''⟩ := h0
    obtain ⟨i, hi, rfl⟩ := qv_ex (N := 4) h1.1 h1.2
    have ti := qv_tI i (by omega)
    obtain ⟨p, hp, rfl⟩ := qv_ex (N := 16) h1'.1 h1'.2
    have tp := qv_tI p (by omega)
    obtain ⟨m, hm, rfl⟩ := qv_ex (N := 4) h1''.1 h1''.2
    have tm := qv_tI m (by omega)
    obtain ⟨w, g, hw, hg, -, e2⟩ := h.2.2.2.2.1.2.2.1 i hi
    have e1 : s 22 i 1 = Int32.ofNat g := (h.2.2.2.2.1.1 i).2.trans e2
    have tg := qv_tI g (by omega)
    by_cases h2 : 0 ≤ a3.toInt ∧ a3.toInt ≤ 5
    · by_cases h3 : g < 4
      · cases r with
        | false =>
          obtain ⟨x, hx⟩ : ∃ x, x = qp_up (qp_up (qp_up (qp_up (qp_up s 25 (4 * i + g) 0 (Int32.ofNat p)) 25 (4 * i + g) 1 a3) 25 (4 * i + g) 2 a4) 25 (4 * i + g) 3 (Int32.ofNat m)) 22 i 1 (Int32.ofNat (g + 1)) := ⟨_, rfl⟩
          refine ⟨Int32.ofNat (g + 1), qp_up (qp_up (qp_up (qp_up (qp_up (qp_up x 30 0 0 0) 43 0 (16 * i + 4 * g) (Int32.ofNat p)) 43 0 (16 * i + 4 * g + 1) a3) 43 0 (16 * i + 4 * g + 2) a4) 43 0 (16 * i + 4 * g + 3) (Int32.ofNat m)) 44 0 i (Int32.ofNat (g + 1)), ?_, Or.inl ⟨(Int32.ofNat (g + 1), x), ?_, ?_, rfl, rfl⟩⟩
          · subst hx
            obtain ⟨hB, hW, hS, hP, hM, hG, hD, hE, hK, hJ, hZ⟩ := h
            refine ⟨false, T, B, c, n, hB, hW, hS, hP, ⟨fun t => ⟨?_, ?_⟩, hM.2.1, fun t ht => ?_, hM.2.2.2⟩, ⟨fun k j hk hj => ?_, fun k hk => ?_⟩, hD, hE, hK, hJ, ⟨hZ.1, hZ.2.1, hZ.2.2.1, hZ.2.2.2.1, hZ.2.2.2.2.1, fun e => by cases e⟩⟩
            · simp (disch := first | omega | decide) only [qu_pk, qu_pj, qu_ps, qu_pi]; exact (hM.1 t).1
            · by_cases e : t = i
              · subst e; simp (disch := first | omega | decide) only [qu_pk, qu_pj, qu_ps, qu_pi]
              · simp (disch := first | omega | decide) only [qu_pk, qu_pj, qu_ps, qu_pi]; exact (hM.1 t).2
            · by_cases e : t = i
              · subst e; simp (disch := first | omega | decide) only [qu_pk, qu_pj, qu_ps, qu_pi]
                obtain ⟨w', g', a, b, c', d⟩ := hM.2.2.1 t ht
                exact ⟨w', g + 1, a, by omega, c', rfl⟩
              · simp (disch := first | omega | decide) only [qu_pk, qu_pj, qu_ps, qu_pi]; exact hM.2.2.1 t ht
            · by_cases e : k = 4 * i + g
              · have : j = 0 ∨ j = 1 ∨ j = 2 ∨ j = 3 := by omega
                rcases this with e' | e' | e' | e' <;> subst e'
                · rw [show 4 * k + 0 = 16 * i + 4 * g by omega, e]; simp (disch := first | omega | decide) only [qu_pk, qu_pj, qu_ps, qu_pi]
                · rw [show 4 * k + 1 = 16 * i + 4 * g + 1 by omega, e]; simp (disch := first | omega | decide) only [qu_pk, qu_pj, qu_ps, qu_pi]
                · rw [show 4 * k + 2 = 16 * i + 4 * g + 2 by omega, e]; simp (disch := first | omega | decide) only [qu_pk, qu_pj, qu_ps, qu_pi]
                · rw [show 4 * k + 3 = 16 * i + 4 * g + 3 by omega, e]; simp (disch := first | omega | decide) only [qu_pk, qu_pj, qu_ps, qu_pi]
              · simp (disch := first | omega | decide) only [qu_pk, qu_pj, qu_ps, qu_pi]; exact hG.1 k j hk hj
            · by_cases e : k = 4 * i + g
              · refine ⟨p, m, hp, hm, ?_, ?_⟩
                · rw [show 4 * k = 16 * i + 4 * g by omega]; simp (disch := first | omega | decide) only [qu_pk, qu_pj, qu_ps, qu_pi]
                · rw [show 4 * k + 3 = 16 * i + 4 * g + 3 by omega]; simp (disch := first | omega | decide) only [qu_pk, qu_pj, qu_ps, qu_pi]
              · simp (disch := first | omega | decide) only [qu_pk, qu_pj, qu_ps, qu_pi]; exact hG.2 k hk
          · subst hx
            simp (disch := first | omega | assumption | decide) only [qf40, qf40_42, qf42, e1, qu_41T, qu_ltT, qu_ltF, qu_gtT, qu_gtF, qu_geT, qu_geF, qu_leT, qu_leF, qu_eqT, qu_eqF, qu_neT, qu_neF, qu_inT, qu_24T, qu_24F, qu_116T, qu_116F, qu_13T, qu_13F, qu_25T, qu_25F, qu_26T, qu_26F, qu_117a, qu_117b, qu_117c, qu_117d, qu_10F, qu_00T, qu_n10, qu_n00, Option.bind_some, cond_true, cond_false, if_true, qv_tN, qv_c6, qv_c4, qv_c8, qv_c32, qv_d4, qv_d16, qv_f4, qv_a1, qv_a2, qv_a3, qv_add, qv_inT, qu_ps, qu_pk]
          · have k3 : x 30 0 20 = qv_b false := by subst hx; exact k2
            have e3 : x 44 0 i = Int32.ofNat g := by subst hx; exact e2
            have t0 := qv_tI (16 * i + 4 * g) (by omega)
            simp (disch := first | omega | assumption | decide) only [qf123, qf123_34, qf123_63, qf123_68, e3, qu_ltT, qu_ltF, qu_gtT, qu_gtF, qu_geT, qu_geF, qu_leT, qu_leF, qu_eqT, qu_eqF, qu_neT, qu_neF, qu_inT, qu_24T, qu_24F, qu_116T, qu_116F, qu_13T, qu_13F, qu_25T, qu_25F, qu_26T, qu_26F, qu_117a, qu_117b, qu_117c, qu_117d, qu_10F, qu_00T, qu_n10, qu_n00, Option.bind_some, cond_true, cond_false, if_true, qv_tN, qv_c6, qv_c4, qv_c8, qv_c32, qv_d4, qv_d16, qv_f4, qv_a1, qv_a2, qv_a3, qv_add, qv_inT, qu_ps, qu_pk]
        | true =>
          refine ⟨0, _, qR_thr 3 h, Or.inr (Or.inr (Or.inr ⟨?_, ?_, rfl⟩))⟩
          · simp (disch := first | omega | assumption | decide) only [qf40, qf40_42, qf40_41, e1, qu_41T, qu_ltT, qu_ltF, qu_gtT, qu_gtF, qu_geT, qu_geF, qu_leT, qu_leF, qu_eqT, qu_eqF, qu_neT, qu_neF, qu_inT, qu_24T, qu_24F, qu_116T, qu_116F, qu_13T, qu_13F, qu_25T, qu_25F, qu_26T, qu_26F, qu_117a, qu_117b, qu_117c, qu_117d, qu_10F, qu_00T, qu_n10, qu_n00, Option.bind_some, cond_true, cond_false, if_true, qv_tN, qv_c6, qv_c4, qv_c8, qv_c32, qv_d4, qv_d16, qv_f4, qv_a1, qv_a2, qv_a3, qv_add, qv_inT]
          · simp (disch := first | omega | assumption | decide) only [qf123, qf123_34, qf123_63, qf123_67, qf123_68, e2, qu_ltT, qu_ltF, qu_gtT, qu_gtF, qu_geT, qu_geF, qu_leT, qu_leF, qu_eqT, qu_eqF, qu_neT, qu_neF, qu_inT, qu_24T, qu_24F, qu_116T, qu_116F, qu_13T, qu_13F, qu_25T, qu_25F, qu_26T, qu_26F, qu_117a, qu_117b, qu_117c, qu_117d, qu_10F, qu_00T, qu_n10, qu_n00, Option.bind_some, cond_true, cond_false, if_true, qv_tN, qv_c6, qv_c4, qv_c8, qv_c32, qv_d4, qv_d16, qv_f4, qv_a1, qv_a2, qv_a3, qv_add, qv_inT]
      · refine ⟨0, _, qR_thr 2 h, Or.inr (Or.inr (Or.inl ⟨?_, ?_, rfl⟩))⟩
        · simp (disch := first | omega | assumption | decide) only [qf40, qf40_42, qf40_41, e1, qu_41T, qu_ltT, qu_ltF, qu_gtT, qu_gtF, qu_geT, qu_geF, qu_leT, qu_leF, qu_eqT, qu_eqF, qu_neT, qu_neF, qu_inT, qu_24T, qu_24F, qu_116T, qu_116F, qu_13T, qu_13F, qu_25T, qu_25F, qu_26T, qu_26F, qu_117a, qu_117b, qu_117c, qu_117d, qu_10F, qu_00T, qu_n10, qu_n00, Option.bind_some, cond_true, cond_false, if_true, qv_tN, qv_c6, qv_c4, qv_c8, qv_c32, qv_d4, qv_d16, qv_f4, qv_a1, qv_a2, qv_a3, qv_add, qv_inT]
        · simp (disch := first | omega | assumption | decide) only [qf123, qf123_34, qf123_63, qf123_67, qf123_68, e2, qu_ltT, qu_ltF, qu_gtT, qu_gtF, qu_geT, qu_geF, qu_leT, qu_leF, qu_eqT, qu_eqF, qu_neT, qu_neF, qu_inT, qu_24T, qu_24F, qu_116T, qu_116F, qu_13T, qu_13F, qu_25T, qu_25F, qu_26T, qu_26F, qu_117a, qu_117b, qu_117c, qu_117d, qu_10F, qu_00T, qu_n10, qu_n00, Option.bind_some, cond_true, cond_false, if_true, qv_tN, qv_c6, qv_c4, qv_c8, qv_c32, qv_d4, qv_d16, qv_f4, qv_a1, qv_a2, qv_a3, qv_add, qv_inT]
    · refine ⟨0, _, qR_thr 2 h, Or.inr (Or.inr (Or.inl ⟨?_, ?_, rfl⟩))⟩
      · simp (disch := first | omega | assumption | decide) only [qf40, qf40_42, qf40_41, qu_41F, qu_ltT, qu_ltF, qu_gtT, qu_gtF, qu_geT, qu_geF, qu_leT, qu_leF, qu_eqT, qu_eqF, qu_neT, qu_neF, qu_inT, qu_24T, qu_24F, qu_116T, qu_116F, qu_13T, qu_13F, qu_25T, qu_25F, qu_26T, qu_26F, qu_117a, qu_117b, qu_117c, qu_117d, qu_10F, qu_00T, qu_n10, qu_n00, Option.bind_some, cond_true, cond_false, if_true, qv_tN, qv_c6, qv_c4, qv_c8, qv_c32, qv_d4, qv_d16, qv_f4, qv_a1, qv_a2, qv_a3, qv_add, qv_inT]
      · simp (disch := first | omega | assumption | decide) only [qf123, qf123_34, qf123_63, qf123_67, qf123_68, qu_ltT, qu_ltF, qu_gtT, qu_gtF, qu_geT, qu_geF, qu_leT, qu_leF, qu_eqT, qu_eqF, qu_neT, qu_neF, qu_inT, qu_24T, qu_24F, qu_116T, qu_116F, qu_13T, qu_13F, qu_25T, qu_25F, qu_26T, qu_26F, qu_117a, qu_117b, qu_117c, qu_117d, qu_10F, qu_00T, qu_n10, qu_n00, Option.bind_some, cond_true, cond_false, if_true, qv_tN, qv_c6, qv_c4, qv_c8, qv_c32, qv_d4, qv_d16, qv_f4, qv_a1, qv_a2, qv_a3, qv_add, qv_inT]
  · refine ⟨0, _, qR_thr 1 h, Or.inr (Or.inl ⟨?_, ?_, rfl⟩)⟩
    · by_cases h1 : 0 ≤ a1.toInt ∧ a1.toInt < 4
      · by_cases h2 : 0 ≤ a2.toInt ∧ a2.toInt < 16
        · by_cases h3 : 0 ≤ a5.toInt ∧ a5.toInt < 4
          · exact absurd ⟨h1, h2, h3⟩ h0
          · simp (disch := first | omega | assumption | decide) only [qf40, qu_ltT, qu_ltF, qu_gtT, qu_gtF, qu_geT, qu_geF, qu_leT, qu_leF, qu_eqT, qu_eqF, qu_neT, qu_neF, qu_inT, qu_24T, qu_24F, qu_116T, qu_116F, qu_13T, qu_13F, qu_25T, qu_25F, qu_26T, qu_26F, qu_117a, qu_117b, qu_117c, qu_117d, qu_10F, qu_00T, qu_n10, qu_n00, Option.bind_some, cond_true, cond_false, if_true, qv_tN]
        · simp (disch := first | omega | assumption | decide) only [qf40, qu_ltT, qu_ltF, qu_gtT, qu_gtF, qu_geT, qu_geF, qu_leT, qu_leF, qu_eqT, qu_eqF, qu_neT, qu_neF, qu_inT, qu_24T, qu_24F, qu_116T, qu_116F, qu_13T, qu_13F, qu_25T, qu_25F, qu_26T, qu_26F, qu_117a, qu_117b, qu_117c, qu_117d, qu_10F, qu_00T, qu_n10, qu_n00, Option.bind_some, cond_true, cond_false, if_true, qv_tN]
      · simp (disch := first | omega | assumption | decide) only [qf40, qu_ltT, qu_ltF, qu_gtT, qu_gtF, qu_geT, qu_geF, qu_leT, qu_leF, qu_eqT, qu_eqF, qu_neT, qu_neF, qu_inT, qu_24T, qu_24F, qu_116T, qu_116F, qu_13T, qu_13F, qu_25T, qu_25F, qu_26T, qu_26F, qu_117a, qu_117b, qu_117c, qu_117d, qu_10F, qu_00T, qu_n10, qu_n00, Option.bind_some, cond_true, cond_false, if_true, qv_tN]
    · by_cases h1 : 0 ≤ a1.toInt ∧ a1.toInt < 4
      · by_cases h2 : 0 ≤ a2.toInt ∧ a2.toInt < 16
        · by_cases h3 : 0 ≤ a5.toInt ∧ a5.toInt < 4
          · exact absurd ⟨h1, h2, h3⟩ h0
          · simp (disch := first | omega | assumption | decide) only [qf123, qf123_33, qu_123_34, qu_ltT, qu_ltF, qu_gtT, qu_gtF, qu_geT, qu_geF, qu_leT, qu_leF, qu_eqT, qu_eqF, qu_neT, qu_neF, qu_inT, qu_24T, qu_24F, qu_116T, qu_116F, qu_13T, qu_13F, qu_25T, qu_25F, qu_26T, qu_26F, qu_117a, qu_117b, qu_117c, qu_117d, qu_10F, qu_00T, qu_n10, qu_n00, Option.bind_some, cond_true, cond_false, if_true, qv_tN]
        · simp (disch := first | omega | assumption | decide) only [qf123, qf123_33, qu_123_34, qu_ltT, qu_ltF, qu_gtT, qu_gtF, qu_geT, qu_geF, qu_leT, qu_leF, qu_eqT, qu_eqF, qu_neT, qu_neF, qu_inT, qu_24T, qu_24F, qu_116T, qu_116F, qu_13T, qu_13F, qu_25T, qu_25F, qu_26T, qu_26F, qu_117a, qu_117b, qu_117c, qu_117d, qu_10F, qu_00T, qu_n10, qu_n00, Option.bind_some, cond_true, cond_false, if_true, qv_tN]
      · simp (disch := first | omega | assumption | decide) only [qf123, qf123_33, qu_123_34, qu_ltT, qu_ltF, qu_gtT, qu_gtF, qu_geT, qu_geF, qu_leT, qu_leF, qu_eqT, qu_eqF, qu_neT, qu_neF, qu_inT, qu_24T, qu_24F, qu_116T, qu_116F, qu_13T, qu_13F, qu_25T, qu_25F, qu_26T, qu_26F, qu_117a, qu_117b, qu_117c, qu_117d, qu_10F, qu_00T, qu_n10, qu_n00, Option.bind_some, cond_true, cond_false, if_true, qv_tN]
/-! event -/
theorem qo18 : qo_op18 qR := by
  rintro s a1 a2 ⟨r, T, B, c, n, h⟩
  have l0 : (0:Int32).toInt = 0 := rfl; have l1 : (1:Int32).toInt = 1 := rfl; have lm : (-1:Int32).toInt = -1 := rfl; have l3 : (3:Int32).toInt = 3 := rfl; have l4 : (4:Int32).toInt = 4 := rfl; have l5 : (5:Int32).toInt = 5 := rfl; have l6 : (6:Int32).toInt = 6 := rfl; have l7 : (7:Int32).toInt = 7 := rfl; have l8 : (8:Int32).toInt = 8 := rfl; have l15 : (15:Int32).toInt = 15 := rfl; have l16 : (16:Int32).toInt = 16 := rfl; have l32 : (32:Int32).toInt = 32 := rfl; have l300 : (300:Int32).toInt = 300 := rfl
  have n1 := h.2.2.2.2.2.2.2.2.1.2.2.2.2.2.2.2.2.1
  have n2 := h.2.2.2.2.2.2.2.2.1.2.2.2.2.2.2.2.2.2
  have hn : n ≤ 48000048 := by have := h.2.2.2.2.2.2.2.2.2.2; unfold qa_Z at this; omega
  have tn := qv_tI n (by omega)
  have hmin : (qm_min (Int32.ofNat n) 300).toInt = min n 300 := by
    unfold qm_min
    by_cases e : n ≤ 300
    · rw [if_neg (by rw [Int32.lt_iff_toInt_lt]; omega)]; omega
    · rw [if_pos (by rw [Int32.lt_iff_toInt_lt]; omega)]; omega
  by_cases h1 : 0 ≤ a1.toInt ∧ a1.toInt < min n 300
  · obtain ⟨i, hi, rfl⟩ := qv_ex (N := 300) h1.1 (by omega)
    have ti := qv_tI i (by omega)
    by_cases h2 : 0 ≤ a2.toInt ∧ a2.toInt < 4
    · obtain ⟨j, hj, rfl⟩ := qv_ex (N := 4) h2.1 h2.2
      have tj := qv_tI j (by omega)
      refine ⟨s 56 0 (4 * i + j), _, qR_thr 0 h, ?_, ?_⟩
      · have e1 := h.2.2.2.2.2.2.2.1 (i * 4 + j)
        simp (disch := first | omega | assumption | decide) only [qf20, qf21, n1, qu_ltT, qu_ltF, qu_gtT, qu_gtF, qu_geT, qu_geF, qu_leT, qu_leF, qu_eqT, qu_eqF, qu_neT, qu_neF, qu_inT, qu_24T, qu_24F, qu_116T, qu_116F, qu_13T, qu_13F, qu_25T, qu_25F, qu_26T, qu_26F, qu_117a, qu_117b, qu_117c, qu_117d, qu_10F, qu_00T, qu_n10, qu_n00, Option.bind_some, cond_true, cond_false, if_true, qv_tN, qv_c6, qv_c4, qv_c8, qv_c32, qv_d4, qv_d16, qv_f4, qv_a1, qv_a2, qv_a3, qv_add, qv_inT]
        rw [e1, show i * 4 + j = 4 * i + j by omega]
      · have e2 : (qp_up s 30 0 0 0) 30 0 30 = Int32.ofNat n := n2
        simp (disch := first | omega | assumption | decide) only [qf168, e2, qu_ltT, qu_ltF, qu_gtT, qu_gtF, qu_geT, qu_geF, qu_leT, qu_leF, qu_eqT, qu_eqF, qu_neT, qu_neF, qu_inT, qu_24T, qu_24F, qu_116T, qu_116F, qu_13T, qu_13F, qu_25T, qu_25F, qu_26T, qu_26F, qu_117a, qu_117b, qu_117c, qu_117d, qu_10F, qu_00T, qu_n10, qu_n00, Option.bind_some, cond_true, cond_false, if_true, qv_tN, qv_c6, qv_c4, qv_c8, qv_c32, qv_d4, qv_d16, qv_f4, qv_a1, qv_a2, qv_a3, qv_add, qv_inT, qu_pk]
    · refine ⟨-1, _, qR_thr 0 h, ?_, ?_⟩
      · simp (disch := first | omega | assumption | decide) only [qf20, qf21, n1, qu_ltT, qu_ltF, qu_gtT, qu_gtF, qu_geT, qu_geF, qu_leT, qu_leF, qu_eqT, qu_eqF, qu_neT, qu_neF, qu_inT, qu_24T, qu_24F, qu_116T, qu_116F, qu_13T, qu_13F, qu_25T, qu_25F, qu_26T, qu_26F, qu_117a, qu_117b, qu_117c, qu_117d, qu_10F, qu_00T, qu_n10, qu_n00, Option.bind_some, cond_true, cond_false, if_true, qv_tN, qv_c6, qv_c4, qv_c8, qv_c32, qv_d4, qv_d16, qv_f4, qv_a1, qv_a2, qv_a3, qv_add, qv_inT]
      · have e2 : (qp_up s 30 0 0 0) 30 0 30 = Int32.ofNat n := n2
        simp (disch := first | omega | assumption | decide) only [qf168, e2, qu_ltT, qu_ltF, qu_gtT, qu_gtF, qu_geT, qu_geF, qu_leT, qu_leF, qu_eqT, qu_eqF, qu_neT, qu_neF, qu_inT, qu_24T, qu_24F, qu_116T, qu_116F, qu_13T, qu_13F, qu_25T, qu_25F, qu_26T, qu_26F, qu_117a, qu_117b, qu_117c, qu_117d, qu_10F, qu_00T, qu_n10, qu_n00, Option.bind_some, cond_true, cond_false, if_true, qv_tN, qv_c6, qv_c4, qv_c8, qv_c32, qv_d4, qv_d16, qv_f4, qv_a1, qv_a2, qv_a3, qv_add, qv_inT, qu_pk]
  · refine ⟨-1, _, qR_thr 0 h, ?_, ?_⟩
    · simp (disch := first | omega | assumption | decide) only [qf20, qf21, n1, qu_ltT, qu_ltF, qu_gtT, qu_gtF, qu_geT, qu_geF, qu_leT, qu_leF, qu_eqT, qu_eqF, qu_neT, qu_neF, qu_inT, qu_24T, qu_24F, qu_116T, qu_116F, qu_13T, qu_13F, qu_25T, qu_25F, qu_26T, qu_26F, qu_117a, qu_117b, qu_117c, qu_117d, qu_10F, qu_00T, qu_n10, qu_n00, Option.bind_some, cond_true, cond_false, if_true, qv_tN, qv_c6, qv_c4, qv_c8, qv_c32, qv_d4, qv_d16, qv_f4, qv_a1, qv_a2, qv_a3, qv_add, qv_inT]
    · have e2 : (qp_up s 30 0 0 0) 30 0 30 = Int32.ofNat n := n2
      by_cases h2 : a1.toInt < 0
      · simp (disch := first | omega | assumption | decide) only [qf168, e2, qu_ltT, qu_ltF, qu_gtT, qu_gtF, qu_geT, qu_geF, qu_leT, qu_leF, qu_eqT, qu_eqF, qu_neT, qu_neF, qu_inT, qu_24T, qu_24F, qu_116T, qu_116F, qu_13T, qu_13F, qu_25T, qu_25F, qu_26T, qu_26F, qu_117a, qu_117b, qu_117c, qu_117d, qu_10F, qu_00T, qu_n10, qu_n00, Option.bind_some, cond_true, cond_false, if_true, qv_tN, qv_c6, qv_c4, qv_c8, qv_c32, qv_d4, qv_d16, qv_f4, qv_a1, qv_a2, qv_a3, qv_add, qv_inT, qu_pk]
      · by_cases h3 : n ≤ a1.toInt
        · simp (disch := first | omega | assumption | decide) only [qf168, e2, qu_ltT, qu_ltF, qu_gtT, qu_gtF, qu_geT, qu_geF, qu_leT, qu_leF, qu_eqT, qu_eqF, qu_neT, qu_neF, qu_inT, qu_24T, qu_24F, qu_116T, qu_116F, qu_13T, qu_13F, qu_25T, qu_25F, qu_26T, qu_26F, qu_117a, qu_117b, qu_117c, qu_117d, qu_10F, qu_00T, qu_n10, qu_n00, Option.bind_some, cond_true, cond_false, if_true, qv_tN, qv_c6, qv_c4, qv_c8, qv_c32, qv_d4, qv_d16, qv_f4, qv_a1, qv_a2, qv_a3, qv_add, qv_inT, qu_pk]
        · simp (disch := first | omega | assumption | decide) only [qf168, e2, qu_ltT, qu_ltF, qu_gtT, qu_gtF, qu_geT, qu_geF, qu_leT, qu_leF, qu_eqT, qu_eqF, qu_neT, qu_neF, qu_inT, qu_24T, qu_24F, qu_116T, qu_116F, qu_13T, qu_13F, qu_25T, qu_25F, qu_26T, qu_26F, qu_117a, qu_117b, qu_117c, qu_117d, qu_10F, qu_00T, qu_n10, qu_n00, Option.bind_some, cond_true, cond_false, if_true, qv_tN, qv_c6, qv_c4, qv_c8, qv_c32, qv_d4, qv_d16, qv_f4, qv_a1, qv_a2, qv_a3, qv_add, qv_inT, qu_pk]
