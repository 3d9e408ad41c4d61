/-! start -/
theorem qh_fault {x y : qp_S} {r : Bool} {T B c n : Nat} (h : qa x y r T B c n) : ∃ F x' y', F ≤ 700 ∧ qf50 x = some (Int32.ofNat F, x') ∧ qf128 y = some (Int32.ofNat F, y') ∧ qfr [11, 12, 13] x x' ∧ qfr [60] y y' ∧ (F = 0 → qa_ok y ∧ 0 < qN (y 41 0 0)) := by
  have l0 : (0:Int32).toInt = 0 := rfl; have l1 : (1:Int32).toInt = 1 := rfl; have lm : (-1:Int32).toInt = -1 := rfl; have l3 : (3:Int32).toInt = 3 := rfl; have l4 : (4:Int32).toInt = 4 := rfl; have l5 : (5:Int32).toInt = 5 := rfl; have l6 : (6:Int32).toInt = 6 := rfl; have l7 : (7:Int32).toInt = 7 := rfl; have l8 : (8:Int32).toInt = 8 := rfl; have l15 : (15:Int32).toInt = 15 := rfl; have l16 : (16:Int32).toInt = 16 := rfl; have l32 : (32:Int32).toInt = 32 := rfl
  have hq : qh x y := ⟨h.2.1, h.2.2.1, h.2.2.2.2.1⟩
  have hin0 : qm_inb (0 : Int32) 4 = true := by decide
  have hm1 : qm_cmp .ne (-1 : Int32) (-1) = false := by decide
  have hne : ∀ j, j < 8 → qm_cmp .ne (Int32.ofNat j) (-1) = true := fun j hj => by rw [qv_ne]; exact decide_eq_true (qv_mm j (by omega))
  rcases qh_1 (y0 := y) 8 0 4096 4096 x y (by decide) (by decide) (by decide) hq qfr_r with ⟨j, x1, y1, hj, e1, e2, f1, f2⟩ | ⟨x1, y1, e1, e2, f1, f2, hgood⟩
  · have e51 : qf51 x = some (Int32.ofNat j, x1) := e1
    have e129 : qf129 y = some (Int32.ofNat (100 + j), y1) := e2
    have tj := qv_tI (100 + j) (by omega)
    refine ⟨100 + j, x1, y1, by omega, ?_, ?_, f1, f2, fun g => by omega⟩
    · unfold qf50
      rw [e51, Option.bind_some]
      dsimp only
      rw [hne j hj, cond_true]
      exact (qh_92 (k := 1) hj x1).2.2.2.2
    · unfold qf128
      rw [e129, Option.bind_some]
      dsimp only
      rw [qu_leF (by omega), cond_false]
  · have e51 : qf51 x = some (-1, x1) := e1
    have e129 : qf129 y = qf129_37 4096 0 y1 := e2
    have hq1 := qh_c f1 f2 hq
    rcases qh_2 (y0 := y) (fun t ht g => hgood t (by omega) ht g) 8 0 4096 4096 x1 y1 (by decide) (by decide) (by decide) hq1 f2 with ⟨j, x2, y2, hj, d1, d2, g1, g2⟩ | ⟨x2, y2, d1, d2, g1, g2, hsound⟩
    · have e63 : qf63 x1 = some (Int32.ofNat j, x2) := d1
      have e129' : qf129_37 4096 0 y1 = some (Int32.ofNat (200 + j), y2) := d2
      have tj := qv_tI (200 + j) (by omega)
      refine ⟨200 + j, x2, y2, by omega, ?_, ?_, qfr_t f1 g1, g2, fun g => by omega⟩
      · unfold qf50
        rw [e51, Option.bind_some]
        dsimp only
        rw [hm1, cond_false, e63, Option.bind_some]
        exact (qh_92 (k := 2) hj x2).2.2.2.2
      · unfold qf128
        rw [e129, e129', Option.bind_some]
        dsimp only
        rw [qu_leF (by omega), cond_false]
    · have e63 : qf63 x1 = some (-1, x2) := d1
      have e129' : qf129_37 4096 0 y1 = some (0, y2) := d2
      have hqa : qa x2 y2 r T B c n := qh_qa (qfr_t f1 g1) g2 h
      have hU : ∀ t, qk_U y2 t ↔ qk_U y t := fun t => by unfold qk_U; rw [g2 41 (by decide), g2 42 (by decide)]
      have hSS : ∀ t, qk_S y2 t ↔ qk_S y t := fun t => by unfold qk_S qk_Wd qj_v; rw [g2 32 (by decide), g2 33 (by decide), g2 34 (by decide)]
      obtain ⟨F, hF, m1, m2, m3⟩ := qh_modes hqa (fun t ht g => (hSS t).mpr (hsound t (by omega) ht ((hU t).mp g)))
      refine ⟨F, x2, y2, hF, ?_, ?_, qfr_t f1 g1, g2, fun g => ?_⟩
      · unfold qf50
        rw [e51, Option.bind_some]
        dsimp only
        rw [hm1, cond_false, e63, Option.bind_some]
        dsimp only
        unfold qf50_28
        rw [hm1, cond_false]
        exact m1
      · unfold qf128
        rw [e129, e129', Option.bind_some]
        dsimp only
        rw [show qm_cmp .le (0 : Int32) 0 = true by decide, cond_true, if_pos hin0, show (0 : Int32).toNatClampNeg = 0 from rfl]
        exact m2
      · obtain ⟨⟨k1, k2, k3⟩, k4⟩ := m3 g
        rw [g2 41 (by decide)] at k1 k2 k4
        rw [g2 42 (by decide)] at k1
        rw [g2 43 (by decide), g2 44 (by decide)] at k2
        exact ⟨⟨k1, k2, fun t ht gu => (hSS t).mp (k3 t ht ((hU t).mpr gu))⟩, k4⟩
theorem qo9 : qo_op9 qR := by
  rintro s ⟨r, T, B, c, n, h⟩
  have l0 : (0:Int32).toInt = 0 := rfl; have l1 : (1:Int32).toInt = 1 := rfl; have lm : (-1:Int32).toInt = -1 := rfl; have l3 : (3:Int32).toInt = 3 := rfl; have l4 : (4:Int32).toInt = 4 := rfl; have l5 : (5:Int32).toInt = 5 := rfl; have l6 : (6:Int32).toInt = 6 := rfl; have l7 : (7:Int32).toInt = 7 := rfl; have l8 : (8:Int32).toInt = 8 := rfl; have l15 : (15:Int32).toInt = 15 := rfl; have l16 : (16:Int32).toInt = 16 := rfl; have l32 : (32:Int32).toInt = 32 := rfl
  have k1 := h.2.2.2.2.2.2.2.2.1.1; have k2 := h.2.2.2.2.2.2.2.2.1.2.1
  cases r with
  | true =>
    refine ⟨0, _, qR_thr 1 h, Or.inr ⟨?_, ?_, rfl⟩⟩
    · unfold qf49
      rw [qu_26F k1]; rfl
    · unfold qf127
      rw [k2]; rfl
  | false =>
    obtain ⟨z1, z2, z3, z4, z5, z6⟩ := h.2.2.2.2.2.2.2.2.2.2
    obtain ⟨rfl, rfl, rfl, rfl, z49, z50⟩ := z5 rfl
    have hrun : ∀ y : qp_S, (∀ k, 30 ≤ k → y k = s k) → ∃ F x2 y2, qf49 s = some (.inr (F, x2)) ∧ qf127 y = some (F, y2) ∧ (∃ r T B c n, qa x2 y2 r T B c n) ∧ y2 30 0 0 = 0 ∧ (∀ k, 30 ≤ k → x2 k = s k) ∧ ∀ k, k < 30 → y2 k = y k := by
      intro y hy
      have hq0 : qa s y false 0 0 0 0 := qa_cg (fun _ _ => rfl) hy h
      have hqa : qa s (qp_up y 30 0 0 0) false 0 0 0 0 := hq0
      obtain ⟨F, x1, y1, hF, e50, e128, f1, f2, hok⟩ := qh_fault hqa
      have tF := qv_tI F (by omega)
      have m1 : ∀ k, 30 ≤ k → ¬ k ∈ [11, 12, 13] := fun k hk g => by simp only [List.mem_cons, List.not_mem_nil, or_false] at g; omega
      have m2 : ∀ k, k < 30 → ¬ k ∈ [60] := fun k hk g => by simp only [List.mem_cons, List.not_mem_nil, or_false] at g; omega
      have e20 : y 30 0 20 = qv_b false := by rw [hy 30 (by decide)]; exact k2
      have hq1 : qa x1 y1 false 0 0 0 0 := qh_qa f1 f2 hqa
      have e300 : y1 30 0 0 = 0 := by rw [f2 30 (by decide)]; exact qu_ps
      have hun49 : qf49 s = (bif qm_cmp .ne (Int32.ofNat F) (0 : Int32) then some (.inr (Int32.ofNat F, x1)) else ((qf76 (qp_up x1 1 0 8 (1 : Int32))).bind fun q3 => some (.inr (Int32.ofNat F, q3.2)))) := by
        unfold qf49
        rw [qu_26T k1, Option.bind_some]
        dsimp only
        rw [e50, Option.bind_some]
      have hun127 : qf127 y = (bif qm_cmp .le (Int32.ofNat F) (0 : Int32) then ((qf146 (qp_up y1 30 0 20 (1 : Int32))).bind fun q2 => some ((0 : Int32), q2.2)) else some (Int32.ofNat F, y1)) := by
        unfold qf127 qf127_13
        rw [e20, show qm_cmp .eq (qv_b false) 0 = true by decide, cond_true, qu_ps, show qm_cmp .le (0 : Int32) 0 = true by decide, cond_true, e128, Option.bind_some]
      by_cases c0 : F = 0
      · subst c0
        obtain ⟨o1, o2⟩ := hok rfl
        have h41 : y1 41 = y 41 := by rw [f2 41 (by decide)]; rfl
        have hoky : qa_ok y1 := by
          have e : qh_y (qp_up y 30 0 0 0) y1 = qp_up y 30 0 0 0 := qh_ye f2
          have : qa_ok (qh_y (qp_up y 30 0 0 0) y1) := by rw [e]; exact o1
          exact this
        have hq2 : qb (qp_up x1 1 0 8 1) (qp_up y1 30 0 20 1) 0 0 0 0 (fun _ => True) := by
          obtain ⟨hB, hW, hS, hP, hM, hG, hD, hE, hK, hJ, hZ⟩ := hq1
          obtain ⟨j1, j2, j3, j4, j5, j6, j7, j8, j9, j10⟩ := hK
          refine ⟨hB, hW, hS, hP, hM, hG, hD, hE, ⟨rfl, rfl, j3, j4, j5, j6, j7, j8, j9, j10⟩, fun i hi _ => hJ i hi, by omega, by omega, by omega, hoky, ?_, e300⟩
          show 0 < qN (y1 41 0 0)
          rw [h41]; exact o2
        have hz1 := (hq1.2.2.2.2.2.2.2.2.2.2.2.2.2.2.1 rfl)
        have hj0 : ∀ t, t < 8 → ¬ (qp_up y1 30 0 20 1) 50 0 t = 1 := by
          intro t ht g
          have g : y1 50 0 t = 1 := g
          rw [hz1.2.2.2.2.2 t ht] at g
          exact absurd g (by decide)
        obtain ⟨x2, y2, B', c', n', a1, a2, a3, a4, a5, a6⟩ := qi_all hq2 (by omega) (fun t ht g => absurd g (hj0 t ht)) (fun t ht g => absurd g (hj0 t ht)) (by omega) (fun _ k hk => hz1.2.2.2.2.1 k hk)
        refine ⟨Int32.ofNat 0, x2, y2, ?_, ?_, ⟨true, 0, B', c', n', a3⟩, a4, fun k hk => ?_, fun k hk => ?_⟩
        · rw [hun49, show qm_cmp .ne (Int32.ofNat 0) 0 = false by decide, cond_false, a1]; rfl
        · rw [hun127, show qm_cmp .le (Int32.ofNat 0) 0 = true by decide, cond_true, a2]; rfl
        · rw [a5 k hk]
          funext e f
          rw [qu_pk (by omega), f1 k (m1 k hk)]
        · rw [a6 k hk]
          funext e f
          rw [qu_pk (by omega), f2 k (m2 k hk), qu_pk (by omega)]
      · refine ⟨Int32.ofNat F, x1, y1, ?_, ?_, ⟨false, 0, 0, 0, 0, hq1⟩, e300, fun k hk => f1 k (m1 k hk), fun k hk => ?_⟩
        · rw [hun49, qu_neT (by omega), cond_true]
        · rw [hun127, qu_leF (by omega), cond_false]
        · rw [f2 k (m2 k hk)]
          funext e f
          rw [qu_pk (by omega)]
    obtain ⟨F, x2, -, e49, -, -, -, hx, -⟩ := hrun s (fun _ _ => rfl)
    obtain ⟨F', x2', y2, e49', e127, ⟨r, T, B, c, n, hq⟩, e0, -, hy⟩ := hrun x2 hx
    have := e49.symm.trans e49'
    injection this with this
    injection this with this
    injection this with g1 g2
    subst g1
    subst g2
    exact ⟨F, y2, ⟨r, T, B, c, n, qa_cg (fun k hk => by rw [hy k hk]) (fun _ _ => rfl) hq⟩, Or.inl ⟨(F, x2), e49, e127, e0, rfl⟩⟩
