/-! job -/
def qa_d (y y' : qp_S) : qp_S := fun k a c => if (k = 30 ∧ (c = 33 ∨ c = 34 ∨ c = 35)) ∨ k = 57 ∨ k = 58 ∨ k = 59 then y k a c else y' k a c
theorem qa_qx {x y y' : qp_S} {r : Bool} {T B c n : Nat} (hF : qx_F y y') (h : qa x y r T B c n) : qa x y' r T B c n := by
  have e : qa_d y y' = y := by
    funext k a c
    unfold qa_d
    by_cases g : (k = 30 ∧ (c = 33 ∨ c = 34 ∨ c = 35)) ∨ k = 57 ∨ k = 58 ∨ k = 59
    · rw [if_pos g]
    · rw [if_neg g]
      exact hF k a c (fun z => g (Or.inl z)) (by omega) (by omega) (by omega)
  have : qa x (qa_d y y') r T B c n := by rw [e]; exact h
  exact this
/-- again, of a task as it stands: the class's job -/
theorem qa_again {s : qp_S} {r : Bool} {T B c n i : Nat} (h : qa s s r T B c n) (hi : i < 8) : ∃ (N : Nat) (y' : qp_S) (J : qj), (bif qm_cmp .eq (s 50 0 i) 0 then (0 : Int32) else s 53 0 i) = Int32.ofNat N ∧ qf148 (Int32.ofNat i) (Int32.ofNat N) (qp_up s 30 0 0 0) = some (Int32.ofNat N, y') ∧ qj_C s i J ∧ qj_R y' J ∧ J.1 ≤ 8 ∧ qx_F (qp_up s 30 0 0 0) y' := by
  rcases h.2.2.2.2.2.2.2.2.2.1 i hi with hj | hj
  · obtain ⟨r1, e1, k, e2, e3, -, -, e4, e5⟩ := qya148 (y := qp_up s 30 0 0 0) (N := 0) hi (by omega) (fun g => absurd g (Nat.lt_irrefl 0))
    obtain rfl : k = 0 := by omega
    obtain ⟨r2, r3⟩ := r1
    dsimp only at e2 e4 e5
    subst e2
    refine ⟨0, r3, qj_0 s i, ?_, e1, hj.2.2.2.2.2, e4, Nat.zero_le _, e5⟩
    rw [hj.1]; rfl
  · have hs := (qa_snd h hi hj.1).2
    obtain ⟨a1, a, t, b, a2, a3, a4, a5, a6, a7, a8, a9, a10, a11, a12, a13, a14, a15⟩ := hj
    obtain ⟨D, hD, -⟩ := hs
    obtain ⟨sz, hsz, esz⟩ := h.2.1.2.2 i hi
    have eS : qN (s 33 0 i) = sz := by rw [esz]; exact qv_tN sz (by omega)
    rw [eS] at hD
    obtain ⟨r1, e1, k, e2, e3, e3', e3'', e4, e5⟩ := qya148 (y := qp_up s 30 0 0 0) (N := a) hi (by omega) (fun g => ⟨sz, D, hsz, hD⟩)
    have hk : k = a := by
      rcases e3'' with g | g
      · exact g
      · by_cases hka : k < t
        · have := a8 k hka
          exact absurd (g.symm.trans this) (by decide)
        · omega
    subst hk
    obtain ⟨r2, r3⟩ := r1
    dsimp only at e2 e4 e5
    subst e2
    refine ⟨k, r3, qj_at s i k, ?_, e1, a15, e4, (qy_at hD hsz k).1, e5⟩
    rw [a1, a4]; rfl
theorem qo17 : qo_op17 qR := by
  rintro s a1 a2 ⟨r, T, B, c, n, h⟩
  have l0 : (0:Int32).toInt = 0 := rfl; have l1 : (1:Int32).toInt = 1 := rfl; have lm : (-1:Int32).toInt = -1 := rfl; have l3 : (3:Int32).toInt = 3 := rfl; have l4 : (4:Int32).toInt = 4 := rfl; have l5 : (5:Int32).toInt = 5 := rfl; have l6 : (6:Int32).toInt = 6 := rfl; have l7 : (7:Int32).toInt = 7 := rfl; have l8 : (8:Int32).toInt = 8 := rfl; have l15 : (15:Int32).toInt = 15 := rfl; have l16 : (16:Int32).toInt = 16 := rfl; have l32 : (32:Int32).toInt = 32 := rfl; have l2 : (2:Int32).toInt = 2 := rfl; have l9 : (9:Int32).toInt = 9 := rfl; have l10 : (10:Int32).toInt = 10 := rfl; have l11 : (11:Int32).toInt = 11 := rfl; have l12 : (12:Int32).toInt = 12 := rfl; have l13 : (13:Int32).toInt = 13 := rfl; have l14 : (14:Int32).toInt = 14 := rfl
  by_cases h1 : 0 ≤ a1.toInt ∧ a1.toInt < 8
  · obtain ⟨i, hi, rfl⟩ := qv_ex (N := 8) h1.1 h1.2
    have ti := qv_tI i (by omega)
    by_cases h2 : 0 ≤ a2.toInt ∧ a2.toInt ≤ 16
    · obtain ⟨w, hw, rfl⟩ := qv_ex (N := 17) h2.1 (by omega)
      have tw := qv_tI w (by omega)
      obtain ⟨N, y', J, hN, he, hC, hRR, hJ8, hF⟩ := qa_again h hi
      have hqy : qa s y' r T B c n := qa_qx (y := qp_up s 30 0 0 0) hF h
      have hq : qR y' := ⟨r, T, B, c, n, qa_cg (fun k hk => by
        funext e f
        rw [hF k e f (by omega) (by omega) (by omega) (by omega)]
        exact qu_pk (by omega)) (fun _ _ => rfl) hqy⟩
      have hc : qf17 (Int32.ofNat i) (Int32.ofNat w) s = qf18 i (Int32.ofNat w) s := by
        simp (disch := first | omega | assumption | decide) only [qf17, qu_ltT, qu_ltF, qu_gtT, qu_gtF, qu_geT, qu_geF, qu_leT, qu_leF, qu_eqT, qu_eqF, qu_neT, qu_neF, qu_inT, qu_24T, qu_24F, qu_116T, qu_116F, qu_13T, qu_13F, qu_25T, qu_25F, qu_26T, qu_26F, qu_117a, qu_117b, qu_117c, qu_117d, qu_10F, qu_00T, qu_n10, qu_n00, Option.bind_some, cond_true, cond_false, if_true, qv_tN]
        cases qf18 i (Int32.ofNat w) s <;> rfl
      have hr : qf167 (Int32.ofNat i) (Int32.ofNat w) s = ((some (Int32.ofNat N, y')).bind fun q3 => (bif qm_cmp .le (Int32.ofNat w) (10 : Int32) then (bif qm_cmp .le (Int32.ofNat w) (5 : Int32) then qf167_110 (Int32.ofNat i) (Int32.ofNat w) (q3.1) q3.2 else (bif qm_cmp .ge (Int32.ofNat w) (10 : Int32) then qf167_110 (Int32.ofNat i) (Int32.ofNat w) (q3.1) q3.2 else (if qm_inb (Int32.ofNat w - (6 : Int32)) 4 = true then some ((q3.2 58 0 ((Int32.ofNat w - (6 : Int32))).toNatClampNeg), q3.2) else none))) else (if qm_inb ((((6 : Int32) * Int32.ofNat i) + Int32.ofNat w) - (11 : Int32)) 48 = true then (bif qm_cmp .ge (q3.2 34 0 (((((6 : Int32) * Int32.ofNat i) + Int32.ofNat w) - (11 : Int32))).toNatClampNeg) (0 : Int32) then (if qm_inb (Int32.ofNat w - (11 : Int32)) 6 = true then some ((q3.2 59 0 ((Int32.ofNat w - (11 : Int32))).toNatClampNeg), q3.2) else none) else some ((0 : Int32), q3.2)) else none))) := by
        rw [← he]
        have g : (qp_up s 30 0 0 0) 50 0 i = s 50 0 i := rfl
        have g2 : (qp_up s 30 0 0 0) 53 0 i = s 53 0 i := rfl
        simp (disch := first | omega | assumption | decide) only [qf167, qf167_48, qu_ltT, qu_ltF, qu_gtT, qu_gtF, qu_geT, qu_geF, qu_leT, qu_leF, qu_eqT, qu_eqF, qu_neT, qu_neF, qu_inT, qu_24T, qu_24F, qu_116T, qu_116F, qu_13T, qu_13F, qu_25T, qu_25F, qu_26T, qu_26F, qu_117a, qu_117b, qu_117c, qu_117d, qu_10F, qu_00T, qu_n10, qu_n00, Option.bind_some, cond_true, cond_false, if_true, qv_tN, g, g2]
        cases hb : qm_cmp .eq (s 50 0 i) 0 with
        | true =>
          rw [hb] at hN
          have hN : (0 : Int32) = Int32.ofNat N := hN
          rw [← hN]; rfl
        | false =>
          rw [hb] at hN
          have hN : s 53 0 i = Int32.ofNat N := hN
          rw [hN]; rfl
      rw [Option.bind_some] at hr
      dsimp only at hr
      by_cases c1 : w ≤ 5 ∨ w = 10
      · -- what is told of the job itself
        have hr2 : qf167 (Int32.ofNat i) (Int32.ofNat w) s = qf167_110 (Int32.ofNat i) (Int32.ofNat w) (Int32.ofNat N) y' := by
          rw [hr]
          by_cases c2 : w ≤ 5
          · simp (disch := first | omega | assumption | decide) only [qu_ltT, qu_ltF, qu_gtT, qu_gtF, qu_geT, qu_geF, qu_leT, qu_leF, qu_eqT, qu_eqF, qu_neT, qu_neF, qu_inT, qu_24T, qu_24F, qu_116T, qu_116F, qu_13T, qu_13F, qu_25T, qu_25F, qu_26T, qu_26F, qu_117a, qu_117b, qu_117c, qu_117d, qu_10F, qu_00T, qu_n10, qu_n00, Option.bind_some, cond_true, cond_false, if_true, qv_tN]
          · simp (disch := first | omega | assumption | decide) only [qu_ltT, qu_ltF, qu_gtT, qu_gtF, qu_geT, qu_geF, qu_leT, qu_leF, qu_eqT, qu_eqF, qu_neT, qu_neF, qu_inT, qu_24T, qu_24F, qu_116T, qu_116F, qu_13T, qu_13F, qu_25T, qu_25F, qu_26T, qu_26F, qu_117a, qu_117b, qu_117c, qu_117d, qu_10F, qu_00T, qu_n10, qu_n00, Option.bind_some, cond_true, cond_false, if_true, qv_tN]
        have hc2 : qf18 i (Int32.ofNat w) s = qf18_47 i (Int32.ofNat w) s := by
          by_cases c2 : w ≤ 5
          · simp (disch := first | omega | assumption | decide) only [qf18, qf18_22, qu_ltT, qu_ltF, qu_gtT, qu_gtF, qu_geT, qu_geF, qu_leT, qu_leF, qu_eqT, qu_eqF, qu_neT, qu_neF, qu_inT, qu_24T, qu_24F, qu_116T, qu_116F, qu_13T, qu_13F, qu_25T, qu_25F, qu_26T, qu_26F, qu_117a, qu_117b, qu_117c, qu_117d, qu_10F, qu_00T, qu_n10, qu_n00, Option.bind_some, cond_true, cond_false, if_true, qv_tN]
          · simp (disch := first | omega | assumption | decide) only [qf18, qf18_22, qu_ltT, qu_ltF, qu_gtT, qu_gtF, qu_geT, qu_geF, qu_leT, qu_leF, qu_eqT, qu_eqF, qu_neT, qu_neF, qu_inT, qu_24T, qu_24F, qu_116T, qu_116F, qu_13T, qu_13F, qu_25T, qu_25F, qu_26T, qu_26F, qu_117a, qu_117b, qu_117c, qu_117d, qu_10F, qu_00T, qu_n10, qu_n00, Option.bind_some, cond_true, cond_false, if_true, qv_tN]
        rw [hc2] at hc
        rcases hqy.2.2.2.2.2.2.2.2.2.1 i hi with hj | hj
        · -- none
          obtain ⟨b1, b2, b3, b4, b5, b6⟩ := hj
          have b7 : s 19 i 1 = 0 := b6.1
          have b8 : s 14 i 10 = 0 := b6.2.1
          have hr3 : qf167_110 (Int32.ofNat i) (Int32.ofNat w) (Int32.ofNat N) y' = (bif qm_cmp .eq (Int32.ofNat w) (1 : Int32) then some ((-1 : Int32), y') else (bif qm_cmp .ne (Int32.ofNat w) (2 : Int32) then some ((0 : Int32), y') else some ((-1 : Int32), y'))) := by
            simp (disch := first | omega | assumption | decide) only [qf167_110, qu_ltT, qu_ltF, qu_gtT, qu_gtF, qu_geT, qu_geF, qu_leT, qu_leF, qu_eqT, qu_eqF, qu_neT, qu_neF, qu_inT, qu_24T, qu_24F, qu_116T, qu_116F, qu_13T, qu_13F, qu_25T, qu_25F, qu_26T, qu_26F, qu_117a, qu_117b, qu_117c, qu_117d, qu_10F, qu_00T, qu_n10, qu_n00, Option.bind_some, cond_true, cond_false, if_true, qv_tN, b1]
          rw [hr3] at hr2
          have : w = 0 ∨ w = 1 ∨ w = 2 ∨ w = 3 ∨ w = 4 ∨ w = 5 ∨ w = 10 := by omega
          rcases this with e | e | e | e | e | e | e <;> subst e
          · exact ⟨0, y', hq, hc.trans (by unfold qf18_47; rw [b4]; rfl), hr2⟩
          · exact ⟨-1, y', hq, hc.trans (by unfold qf18_47; rw [b3]; rfl), hr2⟩
          · exact ⟨-1, y', hq, hc.trans (by unfold qf18_47; rw [b2]; rfl), hr2⟩
          · exact ⟨0, y', hq, hc.trans (by unfold qf18_47; rw [b8]; rfl), hr2⟩
          · exact ⟨0, y', hq, hc.trans (by unfold qf18_47; rw [b7]; rfl), hr2⟩
          · exact ⟨0, y', hq, hc.trans (by unfold qf18_47 qf19; rw [b7]; rfl), hr2⟩
          · exact ⟨0, y', hq, hc.trans (by unfold qf18_47; rw [b5]; rfl), hr2⟩
        · have h160 := qu_160 hi (Or.inr hj)
          obtain ⟨b1, a, t, b, b2, b3, b4, b5, b6, b7, b8, b9, b10, b11, b12, b13, b14, b15⟩ := hj
          have g50 : s 50 0 i = y' 50 0 i := (hF 50 0 i (by omega) (by omega) (by omega) (by omega)).symm
          have g53 : s 53 0 i = y' 53 0 i := (hF 53 0 i (by omega) (by omega) (by omega) (by omega)).symm
          rw [g50, b1, g53, b4] at hN
          have ta := qv_tI a (by omega)
          have tt := qv_tI t (by omega)
          have hN' : Int32.ofNat a = Int32.ofNat N := hN
          have : w = 0 ∨ w = 1 ∨ w = 2 ∨ w = 3 ∨ w = 4 ∨ w = 5 ∨ w = 10 := by omega
          rcases this with e | e | e | e | e | e | e <;> subst e
          · by_cases hat : a < t
            · rw [if_pos hat] at b11
              have tba := qv_tI (b - a) (by omega)
              rw [decide_eq_true (by rw [b11]; omega)] at h160
              refine ⟨Int32.ofNat (b - a), y', hq, hc.trans (by unfold qf18_47; rw [b11]; rfl), hr2.trans ?_⟩
              rw [← hN']
              have g : y' 31 0 i - Int32.ofNat a = Int32.ofNat (b - a) := by rw [b2]; exact qv_sub b a (by omega)
              simp (disch := first | omega | assumption | decide) only [qf167_110, qu_ltT, qu_ltF, qu_gtT, qu_gtF, qu_geT, qu_geF, qu_leT, qu_leF, qu_eqT, qu_eqF, qu_neT, qu_neF, qu_inT, qu_24T, qu_24F, qu_116T, qu_116F, qu_13T, qu_13F, qu_25T, qu_25F, qu_26T, qu_26F, qu_117a, qu_117b, qu_117c, qu_117d, qu_10F, qu_00T, qu_n10, qu_n00, Option.bind_some, cond_true, cond_false, if_true, qv_tN, b1, h160, qv_eq0, Bool.not_true, g]
              rfl
            · rw [if_neg hat] at b11
              rw [decide_eq_false (by rw [b11]; decide)] at h160
              refine ⟨0, y', hq, hc.trans (by unfold qf18_47; rw [b11]; rfl), hr2.trans ?_⟩
              simp (disch := first | omega | assumption | decide) only [qf167_110, qu_ltT, qu_ltF, qu_gtT, qu_gtF, qu_geT, qu_geF, qu_leT, qu_leF, qu_eqT, qu_eqF, qu_neT, qu_neF, qu_inT, qu_24T, qu_24F, qu_116T, qu_116F, qu_13T, qu_13F, qu_25T, qu_25F, qu_26T, qu_26F, qu_117a, qu_117b, qu_117c, qu_117d, qu_10F, qu_00T, qu_n10, qu_n00, Option.bind_some, cond_true, cond_false, if_true, qv_tN, b1, h160, qv_eq0, Bool.not_false]
              rfl
          · refine ⟨y' 51 0 i, y', hq, hc.trans (by unfold qf18_47; rw [b13]; rfl), hr2.trans ?_⟩
            simp (disch := first | omega | assumption | decide) only [qf167_110, qu_ltT, qu_ltF, qu_gtT, qu_gtF, qu_geT, qu_geF, qu_leT, qu_leF, qu_eqT, qu_eqF, qu_neT, qu_neF, qu_inT, qu_24T, qu_24F, qu_116T, qu_116F, qu_13T, qu_13F, qu_25T, qu_25F, qu_26T, qu_26F, qu_117a, qu_117b, qu_117c, qu_117d, qu_10F, qu_00T, qu_n10, qu_n00, Option.bind_some, cond_true, cond_false, if_true, qv_tN, b1]
            rfl
          · refine ⟨y' 52 0 i, y', hq, hc.trans (by unfold qf18_47; rw [b14]; rfl), hr2.trans ?_⟩
            simp (disch := first | omega | assumption | decide) only [qf167_110, qu_ltT, qu_ltF, qu_gtT, qu_gtF, qu_geT, qu_geF, qu_leT, qu_leF, qu_eqT, qu_eqF, qu_neT, qu_neF, qu_inT, qu_24T, qu_24F, qu_116T, qu_116F, qu_13T, qu_13F, qu_25T, qu_25F, qu_26T, qu_26F, qu_117a, qu_117b, qu_117c, qu_117d, qu_10F, qu_00T, qu_n10, qu_n00, Option.bind_some, cond_true, cond_false, if_true, qv_tN, b1]
            rfl
          · refine ⟨Int32.ofNat J.2.1, y', hq, hc.trans (by unfold qf18_47; rw [hC.2.1]; rfl), hr2.trans ?_⟩
            have g := hRR.2.1
            simp (disch := first | omega | assumption | decide) only [qf167_110, qu_ltT, qu_ltF, qu_gtT, qu_gtF, qu_geT, qu_geF, qu_leT, qu_leF, qu_eqT, qu_eqF, qu_neT, qu_neF, qu_inT, qu_24T, qu_24F, qu_116T, qu_116F, qu_13T, qu_13F, qu_25T, qu_25F, qu_26T, qu_26F, qu_117a, qu_117b, qu_117c, qu_117d, qu_10F, qu_00T, qu_n10, qu_n00, Option.bind_some, cond_true, cond_false, if_true, qv_tN, b1, g]
            rfl
          · refine ⟨Int32.ofNat J.1, y', hq, hc.trans (by unfold qf18_47; rw [hC.1]; rfl), hr2.trans ?_⟩
            have g := hRR.1
            simp (disch := first | omega | assumption | decide) only [qf167_110, qu_ltT, qu_ltF, qu_gtT, qu_gtF, qu_geT, qu_geF, qu_leT, qu_leF, qu_eqT, qu_eqF, qu_neT, qu_neF, qu_inT, qu_24T, qu_24F, qu_116T, qu_116F, qu_13T, qu_13F, qu_25T, qu_25F, qu_26T, qu_26F, qu_117a, qu_117b, qu_117c, qu_117d, qu_10F, qu_00T, qu_n10, qu_n00, Option.bind_some, cond_true, cond_false, if_true, qv_tN, b1, g]
            rfl
          · have g := hRR.1
            have g2 := hC.1
            by_cases hz : J.1 = 0
            · rw [hz] at g g2
              refine ⟨0, y', hq, hc.trans (by unfold qf18_47 qf19; rw [g2]; rfl), hr2.trans ?_⟩
              simp (disch := first | omega | assumption | decide) only [qf167_110, qu_ltT, qu_ltF, qu_gtT, qu_gtF, qu_geT, qu_geF, qu_leT, qu_leF, qu_eqT, qu_eqF, qu_neT, qu_neF, qu_inT, qu_24T, qu_24F, qu_116T, qu_116F, qu_13T, qu_13F, qu_25T, qu_25F, qu_26T, qu_26F, qu_117a, qu_117b, qu_117c, qu_117d, qu_10F, qu_00T, qu_n10, qu_n00, Option.bind_some, cond_true, cond_false, if_true, qv_tN, b1, g]
              rfl
            · obtain ⟨z, hz⟩ : ∃ z, J.1 = z + 1 := ⟨J.1 - 1, by omega⟩
              have g3 := hC.2.2.1 z (by omega)
              have g4 := hRR.2.2.2.1 z (by omega)
              rw [hz] at g g2
              have tz := qv_tI (z + 1) (by omega)
              refine ⟨J.2.2.2.1 z, y', hq, hc.trans (by unfold qf18_47; rw [qw_top g2 (by omega), g3]; rfl), hr2.trans ?_⟩
              have g5 : qf167_110 (Int32.ofNat i) (Int32.ofNat 5) (Int32.ofNat N) y' = (bif qm_cmp .ne (y' 30 0 33) (0 : Int32) then (if qm_inb ((y' 30 0 33) - (1 : Int32)) 9 = true then some ((y' 57 0 (((y' 30 0 33) - (1 : Int32))).toNatClampNeg), y') else none) else some ((0 : Int32), y')) := by
                simp (disch := first | omega | assumption | decide) only [qf167_110, qu_ltT, qu_ltF, qu_gtT, qu_gtF, qu_geT, qu_geF, qu_leT, qu_leF, qu_eqT, qu_eqF, qu_neT, qu_neF, qu_inT, qu_24T, qu_24F, qu_116T, qu_116F, qu_13T, qu_13F, qu_25T, qu_25F, qu_26T, qu_26F, qu_117a, qu_117b, qu_117c, qu_117d, qu_10F, qu_00T, qu_n10, qu_n00, Option.bind_some, cond_true, cond_false, if_true, qv_tN, b1]
                rfl
              rw [g5, g]
              simp (disch := first | omega | assumption | decide) only [qu_ltT, qu_ltF, qu_gtT, qu_gtF, qu_geT, qu_geF, qu_leT, qu_leF, qu_eqT, qu_eqF, qu_neT, qu_neF, qu_inT, qu_24T, qu_24F, qu_116T, qu_116F, qu_13T, qu_13F, qu_25T, qu_25F, qu_26T, qu_26F, qu_117a, qu_117b, qu_117c, qu_117d, qu_10F, qu_00T, qu_n10, qu_n00, Option.bind_some, cond_true, cond_false, if_true, qv_tN, qv_c6, qv_c4, qv_c8, qv_c32, qv_d4, qv_d16, qv_f4, qv_a1, qv_a2, qv_a3, qv_add, qv_inT, qx_m1, g4]
          · by_cases hat : a < t
            · rw [if_pos hat] at b11 b12
              have tba := qv_tI (b - a) (by omega)
              rw [decide_eq_true (by rw [b11]; omega)] at h160
              refine ⟨0, y', hq, hc.trans (by unfold qf18_47; rw [b12]; rfl), hr2.trans ?_⟩
              have g5 : qf167_110 (Int32.ofNat i) (Int32.ofNat 10) (Int32.ofNat N) y' = (bif qm_cmp .eq (y' 55 0 i) (0 : Int32) then some ((0 : Int32), y') else ((qf160 (Int32.ofNat i) y').bind fun q4 => (bif qm_cmp .ne q4 (0 : Int32) then some ((0 : Int32), y') else some ((1 : Int32), y')))) := by
                simp (disch := first | omega | assumption | decide) only [qf167_110, qu_ltT, qu_ltF, qu_gtT, qu_gtF, qu_geT, qu_geF, qu_leT, qu_leF, qu_eqT, qu_eqF, qu_neT, qu_neF, qu_inT, qu_24T, qu_24F, qu_116T, qu_116F, qu_13T, qu_13F, qu_25T, qu_25F, qu_26T, qu_26F, qu_117a, qu_117b, qu_117c, qu_117d, qu_10F, qu_00T, qu_n10, qu_n00, Option.bind_some, cond_true, cond_false, if_true, qv_tN, b1]
                rfl
              rw [g5, h160]
              cases qm_cmp .eq (y' 55 0 i) (0 : Int32) <;> rfl
            · rw [if_neg hat] at b11 b12
              rw [decide_eq_false (by rw [b11]; decide)] at h160
              have g5 : qf167_110 (Int32.ofNat i) (Int32.ofNat 10) (Int32.ofNat N) y' = (bif qm_cmp .eq (y' 55 0 i) (0 : Int32) then some ((0 : Int32), y') else ((qf160 (Int32.ofNat i) y').bind fun q4 => (bif qm_cmp .ne q4 (0 : Int32) then some ((0 : Int32), y') else some ((1 : Int32), y')))) := by
                simp (disch := first | omega | assumption | decide) only [qf167_110, qu_ltT, qu_ltF, qu_gtT, qu_gtF, qu_geT, qu_geF, qu_leT, qu_leF, qu_eqT, qu_eqF, qu_neT, qu_neF, qu_inT, qu_24T, qu_24F, qu_116T, qu_116F, qu_13T, qu_13F, qu_25T, qu_25F, qu_26T, qu_26F, qu_117a, qu_117b, qu_117c, qu_117d, qu_10F, qu_00T, qu_n10, qu_n00, Option.bind_some, cond_true, cond_false, if_true, qv_tN, b1]
                rfl
              rw [b10] at b12
              rw [h160, b10] at g5
              cases hbb : !(qj_at y' i t).2.2.1 with
              | true =>
                rw [hbb] at b12 g5
                exact ⟨1, y', hq, hc.trans (by unfold qf18_47; rw [b12]; rfl), hr2.trans g5⟩
              | false =>
                rw [hbb] at b12 g5
                exact ⟨0, y', hq, hc.trans (by unfold qf18_47; rw [b12]; rfl), hr2.trans g5⟩
      · by_cases c2 : w ≤ 10
        · -- locals
          obtain ⟨j, hj, rfl⟩ : ∃ j, j < 4 ∧ w = j + 6 := ⟨w - 6, by omega, by omega⟩
          have e6 : Int32.ofNat (j + 6) - 6 = Int32.ofNat j := by rw [Int32.ofNat_add]; exact Int32.add_sub_cancel _ _
          have g1 := hC.2.2.2.1 j hj
          have g2 := hRR.2.2.2.2.1 j hj
          refine ⟨J.2.2.2.2.1 j, y', hq, hc.trans ?_, hr.trans ?_⟩
          · simp (disch := first | omega | assumption | decide) only [qf18, qu_ltT, qu_ltF, qu_gtT, qu_gtF, qu_geT, qu_geF, qu_leT, qu_leF, qu_eqT, qu_eqF, qu_neT, qu_neF, qu_inT, qu_24T, qu_24F, qu_116T, qu_116F, qu_13T, qu_13F, qu_25T, qu_25F, qu_26T, qu_26F, qu_117a, qu_117b, qu_117c, qu_117d, qu_10F, qu_00T, qu_n10, qu_n00, Option.bind_some, cond_true, cond_false, if_true, qv_tN, qv_c6, qv_c4, qv_c8, qv_c32, qv_d4, qv_d16, qv_f4, qv_a1, qv_a2, qv_a3, qv_add, qv_inT, e6, g1]
          · simp (disch := first | omega | assumption | decide) only [qu_ltT, qu_ltF, qu_gtT, qu_gtF, qu_geT, qu_geF, qu_leT, qu_leF, qu_eqT, qu_eqF, qu_neT, qu_neF, qu_inT, qu_24T, qu_24F, qu_116T, qu_116F, qu_13T, qu_13F, qu_25T, qu_25F, qu_26T, qu_26F, qu_117a, qu_117b, qu_117c, qu_117d, qu_10F, qu_00T, qu_n10, qu_n00, Option.bind_some, cond_true, cond_false, if_true, qv_tN, qv_c6, qv_c4, qv_c8, qv_c32, qv_d4, qv_d16, qv_f4, qv_a1, qv_a2, qv_a3, qv_add, qv_inT, e6, g2]
        · -- slots
          obtain ⟨j, hj, rfl⟩ : ∃ j, j < 6 ∧ w = j + 11 := ⟨w - 11, by omega, by omega⟩
          have e6 : Int32.ofNat (j + 11) - 11 = Int32.ofNat j := by rw [Int32.ofNat_add]; exact Int32.add_sub_cancel _ _
          have e7 : Int32.ofNat (6 * i + (j + 11)) - 11 = Int32.ofNat (6 * i + j) := by rw [← Nat.add_assoc, Int32.ofNat_add]; exact Int32.add_sub_cancel _ _
          have g1 := hC.2.2.2.2 j hj
          have g2 := hRR.2.2.2.2.2 j hj
          have g3 : qf18 i (Int32.ofNat (j + 11)) s = some (J.2.2.2.2.2 j) := by
            simp (disch := first | omega | assumption | decide) only [qf18, qf18_22, qu_ltT, qu_ltF, qu_gtT, qu_gtF, qu_geT, qu_geF, qu_leT, qu_leF, qu_eqT, qu_eqF, qu_neT, qu_neF, qu_inT, qu_24T, qu_24F, qu_116T, qu_116F, qu_13T, qu_13F, qu_25T, qu_25F, qu_26T, qu_26F, qu_117a, qu_117b, qu_117c, qu_117d, qu_10F, qu_00T, qu_n10, qu_n00, Option.bind_some, cond_true, cond_false, if_true, qv_tN, qv_c6, qv_c4, qv_c8, qv_c32, qv_d4, qv_d16, qv_f4, qv_a1, qv_a2, qv_a3, qv_add, qv_inT, e6, g1]
          have hway := (hqy.2.2.1.2.2.1 (6 * i + j) (by omega)).1
          rcases hway with hway | hway
          · have g4 := hqy.2.2.1.2.2.2 (6 * i + j) (by omega) hway
            rw [g1] at g4
            rw [g4] at g3
            refine ⟨0, y', hq, hc.trans g3, hr.trans ?_⟩
            simp (disch := first | omega | assumption | decide) only [qu_ltT, qu_ltF, qu_gtT, qu_gtF, qu_geT, qu_geF, qu_leT, qu_leF, qu_eqT, qu_eqF, qu_neT, qu_neF, qu_inT, qu_24T, qu_24F, qu_116T, qu_116F, qu_13T, qu_13F, qu_25T, qu_25F, qu_26T, qu_26F, qu_117a, qu_117b, qu_117c, qu_117d, qu_10F, qu_00T, qu_n10, qu_n00, Option.bind_some, cond_true, cond_false, if_true, qv_tN, qv_c6, qv_c4, qv_c8, qv_c32, qv_d4, qv_d16, qv_f4, qv_a1, qv_a2, qv_a3, qv_add, qv_inT, e7, hway]
          · have hge : 0 ≤ (y' 34 0 (6 * i + j)).toInt := by rcases hway with g | g <;> rw [g] <;> decide
            refine ⟨J.2.2.2.2.2 j, y', hq, hc.trans g3, hr.trans ?_⟩
            simp (disch := first | omega | assumption | decide) only [qu_ltT, qu_ltF, qu_gtT, qu_gtF, qu_geT, qu_geF, qu_leT, qu_leF, qu_eqT, qu_eqF, qu_neT, qu_neF, qu_inT, qu_24T, qu_24F, qu_116T, qu_116F, qu_13T, qu_13F, qu_25T, qu_25F, qu_26T, qu_26F, qu_117a, qu_117b, qu_117c, qu_117d, qu_10F, qu_00T, qu_n10, qu_n00, Option.bind_some, cond_true, cond_false, if_true, qv_tN, qv_c6, qv_c4, qv_c8, qv_c32, qv_d4, qv_d16, qv_f4, qv_a1, qv_a2, qv_a3, qv_add, qv_inT, e6, e7, g2]
    · refine ⟨-1, _, qR_thr 0 h, ?_, ?_⟩
      · have e : qf18 i a2 s = some (-1) := by
          by_cases c1 : a2.toInt < 0
          · simp (disch := first | omega | assumption | decide) only [qf18, qf18_22, qf18_47, qu_ltT, qu_ltF, qu_gtT, qu_gtF, qu_geT, qu_geF, qu_leT, qu_leF, qu_eqT, qu_eqF, qu_neT, qu_neF, qu_inT, qu_24T, qu_24F, qu_116T, qu_116F, qu_13T, qu_13F, qu_25T, qu_25F, qu_26T, qu_26F, qu_117a, qu_117b, qu_117c, qu_117d, qu_10F, qu_00T, qu_n10, qu_n00, Option.bind_some, cond_true, cond_false, if_true, qv_tN]
            rw [decide_eq_true (by omega)]; rfl
          · simp (disch := first | omega | assumption | decide) only [qf18, qf18_22, qf18_47, qu_ltT, qu_ltF, qu_gtT, qu_gtF, qu_geT, qu_geF, qu_leT, qu_leF, qu_eqT, qu_eqF, qu_neT, qu_neF, qu_inT, qu_24T, qu_24F, qu_116T, qu_116F, qu_13T, qu_13F, qu_25T, qu_25F, qu_26T, qu_26F, qu_117a, qu_117b, qu_117c, qu_117d, qu_10F, qu_00T, qu_n10, qu_n00, Option.bind_some, cond_true, cond_false, if_true, qv_tN]
            rw [decide_eq_true (by omega)]; rfl
        simp (disch := first | omega | assumption | decide) only [qf17, qu_ltT, qu_ltF, qu_gtT, qu_gtF, qu_geT, qu_geF, qu_leT, qu_leF, qu_eqT, qu_eqF, qu_neT, qu_neF, qu_inT, qu_24T, qu_24F, qu_116T, qu_116F, qu_13T, qu_13F, qu_25T, qu_25F, qu_26T, qu_26F, qu_117a, qu_117b, qu_117c, qu_117d, qu_10F, qu_00T, qu_n10, qu_n00, Option.bind_some, cond_true, cond_false, if_true, qv_tN, e]
      · simp (disch := first | omega | assumption | decide) only [qf167, qu_ltT, qu_ltF, qu_gtT, qu_gtF, qu_geT, qu_geF, qu_leT, qu_leF, qu_eqT, qu_eqF, qu_neT, qu_neF, qu_inT, qu_24T, qu_24F, qu_116T, qu_116F, qu_13T, qu_13F, qu_25T, qu_25F, qu_26T, qu_26F, qu_117a, qu_117b, qu_117c, qu_117d, qu_10F, qu_00T, qu_n10, qu_n00, Option.bind_some, cond_true, cond_false, if_true, qv_tN]
  · refine ⟨-1, _, qR_thr 0 h, ?_, ?_⟩
    · simp (disch := first | omega | assumption | decide) only [qf17, qu_ltT, qu_ltF, qu_gtT, qu_gtF, qu_geT, qu_geF, qu_leT, qu_leF, qu_eqT, qu_eqF, qu_neT, qu_neF, qu_inT, qu_24T, qu_24F, qu_116T, qu_116F, qu_13T, qu_13F, qu_25T, qu_25F, qu_26T, qu_26F, qu_117a, qu_117b, qu_117c, qu_117d, qu_10F, qu_00T, qu_n10, qu_n00, Option.bind_some, cond_true, cond_false, if_true, qv_tN]
    · simp (disch := first | omega | assumption | decide) only [qf167, qu_ltT, qu_ltF, qu_gtT, qu_gtF, qu_geT, qu_geF, qu_leT, qu_leF, qu_eqT, qu_eqF, qu_neT, qu_neF, qu_inT, qu_24T, qu_24F, qu_116T, qu_116F, qu_13T, qu_13F, qu_25T, qu_25F, qu_26T, qu_26F, qu_117a, qu_117b, qu_117c, qu_117d, qu_10F, qu_00T, qu_n10, qu_n00, Option.bind_some, cond_true, cond_false, if_true, qv_tN]
