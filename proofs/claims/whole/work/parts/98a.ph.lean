/-! an instant: the first three of its five -/
def qb_T (y : qp_S) (T B c i e : Nat) : Prop := ∃ q, q < qN (y 42 0 (8 * c + i)) ∧ B + q * (qN (y 41 0 c) / qN (y 42 0 (8 * c + i))) < T ∧ T + e ≤ B + (q + 1) * (qN (y 41 0 c) / qN (y 42 0 (8 * c + i))) ∧ y 52 0 i = Int32.ofNat (B + (q + 1) * (qN (y 41 0 c) / qN (y 42 0 (8 * c + i))))
theorem qb_Tc {y y' : qp_S} {T B c i e : Nat} (h41 : y' 41 = y 41) (h42 : y' 42 = y 42) (h52 : y' 52 = y 52) (h : qb_T y T B c i e) : qb_T y' T B c i e := by
  unfold qb_T; rw [h41, h42, h52]; exact h
theorem qb_span {q f P : Nat} (h : q < f) : (q + 1) * (P / f) ≤ P := Nat.le_trans (Nat.mul_le_mul_right _ h) (Nat.mul_div_le P f)
theorem qb_P {x y : qp_S} {T B c n : Nat} {M : Nat → Prop} (h : qb x y T B c n M) : qN (y 41 0 c) ≤ 60 ∧ y 41 0 c = Int32.ofNat (qN (y 41 0 c)) ∧ x 22 c 0 = Int32.ofNat (qN (y 41 0 c)) := by
  obtain ⟨hB, hW, hS, hP, hM, hG, hD0, hE, hK, hJ, hZ⟩ := h
  obtain ⟨p, g, e1, e2, e3, e4⟩ := hM.2.2.1 c hZ.2.2.1
  have : qN (y 41 0 c) = p := by rw [e3]; exact qv_tN p (by omega)
  rw [this]
  exact ⟨e1, e3, (hM.1 c).1.trans e3⟩
theorem qb_sd {x y : qp_S} {T B c n i e : Nat} {M : Nat → Prop} (h : qb x y T B c n M) (hi : i < 8) (ht : qb_T y T B c i e) : qk_S y i := by
  obtain ⟨hB, hW, hS, hP, hM, hG, hD0, hE, hK, hJ, hZ⟩ := h
  obtain ⟨q, hq, -⟩ := ht
  exact hZ.2.2.2.1.2.2 i hi ⟨c, hZ.2.2.1, hZ.2.2.2.2.1, by omega⟩
/-- published -/
theorem qi_pub {x y : qp_S} {T B c n : Nat} (h : qb x y T B c n (fun _ => True)) (hn : n ≤ 48 * T) (ht : ∀ t, t < 8 → y 50 0 t = 1 → qb_T y T B c t 0) (hcl : ∀ t, t < 8 → y 50 0 t = 1 → y 52 0 t = Int32.ofNat T → ¬ 0 < (x 14 t 9).toInt) : ∃ x' y' n', qf77 x = some (0, x') ∧ qf146 y = qf146_43 4096 0 y' ∧ qb x' y' T B c n' (fun _ => True) ∧ n' ≤ 48 * T + 48 ∧ (∀ t, t < 8 → y' 50 0 t = 1 → qb_T y' T B c t 1) ∧ qfr [8, 9, 14, 19, 21] x x' ∧ qfr [30, 36, 37, 40, 50, 56, 57, 58, 59] y y' := by
  have l0 : (0:Int32).toInt = 0 := rfl; have l1 : (1:Int32).toInt = 1 := rfl; have lm : (-1:Int32).toInt = -1 := rfl; have l3 : (3:Int32).toInt = 3 := rfl; have l4 : (4:Int32).toInt = 4 := rfl; have l5 : (5:Int32).toInt = 5 := rfl; have l6 : (6:Int32).toInt = 6 := rfl; have l7 : (7:Int32).toInt = 7 := rfl; have l8 : (8:Int32).toInt = 8 := rfl; have l15 : (15:Int32).toInt = 15 := rfl; have l16 : (16:Int32).toInt = 16 := rfl; have l32 : (32:Int32).toInt = 32 := rfl
  have hT : T ≤ 1000000 := h.2.2.2.2.2.2.2.2.2.2.1
  have hBT : B ≤ T := h.2.2.2.2.2.2.2.2.2.2.2.1
  have hP := (qb_P h).1
  obtain ⟨x', y', m, m', s1, s2, n', s3, s4, s5, s6, s7, s8⟩ := qv_loop4 (fun n k s => qf77_2 n (Int32.ofNat k) s) (fun n k s => qf146_2 n (Int32.ofNat k) s) 8 (fun k s s' => ∃ n', qb s s' T B c n' (fun _ => True) ∧ n' ≤ 48 * T + 6 * k ∧ (∀ t, t < 8 → s' 50 0 t = 1 → qb_T s' T B c t (if t < k then 1 else 0)) ∧ (∀ t, t < 8 → s' 50 0 t = 1 → s' 52 0 t = Int32.ofNat T → ¬ 0 < (s 14 t 9).toInt) ∧ qfr [8, 9, 14, 19, 21] x s ∧ qfr [30, 36, 37, 40, 50, 56, 57, 58, 59] y s')
    (by
      rintro k s s' hk ⟨n', q1, q2, q3, q4, q5, q6⟩
      have tk := qv_tI k (by omega)
      have hK := q1.2.2.2.2.2.2.2.2.1
      have hnow := hK.2.2.1
      have htime := hK.2.2.2.1
      have hskip : ∀ (z : ∀ t, t < 8 → s' 50 0 t = 1 → qb_T s' T B c t (if t < k + 1 then 1 else 0)), ∃ n'', qb s s' T B c n'' (fun _ => True) ∧ n'' ≤ 48 * T + 6 * (k + 1) ∧ (∀ t, t < 8 → s' 50 0 t = 1 → qb_T s' T B c t (if t < k + 1 then 1 else 0)) ∧ (∀ t, t < 8 → s' 50 0 t = 1 → s' 52 0 t = Int32.ofNat T → ¬ 0 < (s 14 t 9).toInt) ∧ qfr [8, 9, 14, 19, 21] x s ∧ qfr [30, 36, 37, 40, 50, 56, 57, 58, 59] y s' := fun z => ⟨n', q1, by omega, z, q4, q5, q6⟩
      rcases q1.2.2.2.2.2.2.2.2.2.1 k hk trivial with hj | hj
      · have hd : qm_cmp .ne (s 14 k 3) (s 1 0 9) = true := by
          rw [hj.2.1, hnow, qv_ne]; exact decide_eq_true (fun g => qv_mm T (by omega) g.symm)
        have h50 := hj.1
        refine ⟨s, s', fun n => ?_, fun n => ?_, hskip (fun t ht g => ?_)⟩
        · simp (disch := first | omega | assumption | decide) only [qf77_2, qv_g4, qv_g6, qv_g8, qv_g16, qv_g32, qv_g48, qv_e4, qv_e6, qv_e8, qv_e16, qv_e32, qv_e48, qv_inT, qv_tN, qv_s1, cond_false, cond_true, if_true, hd]
        · simp (disch := first | omega | assumption | decide) only [qf146_2, qv_g4, qv_g6, qv_g8, qv_g16, qv_g32, qv_g48, qv_e4, qv_e6, qv_e8, qv_e16, qv_e32, qv_e48, qv_inT, qv_tN, qv_s1, cond_false, cond_true, if_true, h50, qu_00T]
        · have hne : t ≠ k := fun e => by subst e; rw [h50] at g; exact absurd g (by decide)
          have := q3 t ht g
          by_cases e : t < k
          · rw [if_pos e] at this; rw [if_pos (by omega)]; exact this
          · rw [if_neg e] at this; rw [if_neg (by omega)]; exact this
      · have h50 := hj.1
        have ht1 := q3 k hk h50
        rw [if_neg (Nat.lt_irrefl k)] at ht1
        have hsd := qb_sd q1 hk ht1
        obtain ⟨a, t, b, -, -, -, -, -, -, -, -, -, -, -, -, hdue, -⟩ := hj.2
        obtain ⟨q, hq, w1, w2, w3⟩ := ht1
        have h41 : s' 41 = y 41 := q6 41 (by decide)
        have hsp := qb_span (P := qN (s' 41 0 c)) hq
        rw [h41] at hsp
        by_cases e : T = B + (q + 1) * (qN (s' 41 0 c) / qN (s' 42 0 (8 * c + k)))
        · have hcl1 := q4 k hk h50 (by rw [w3, ← e])
          obtain ⟨x1, x', y', n'', v1, v2, v3, v4, v5, v6, v7, v8, v9, v10⟩ := qb_pub1 q1 hk (by omega) h50 hcl1 hsd
          have hd : qm_cmp .ne (s 14 k 3) (s 1 0 9) = false := by
            rw [hdue, w3, hnow, ← e, qv_ne]; exact decide_eq_false (fun g => g rfl)
          have hd2 : qm_cmp .ne (s' 52 0 k) (s' 30 0 21) = false := by
            rw [w3, htime, ← e, qv_ne]; exact decide_eq_false (fun g => g rfl)
          refine ⟨x', y', fun n => ?_, fun n => ?_, n'', v4, by omega, fun t ht g => ?_, fun t ht g g2 => ?_, qfr_t q5 v6, qfr_t q6 v7⟩
          · simp (disch := first | omega | assumption | decide) only [qf77_2, qv_g4, qv_g6, qv_g8, qv_g16, qv_g32, qv_g48, qv_e4, qv_e6, qv_e8, qv_e16, qv_e32, qv_e48, qv_inT, qv_tN, qv_s1, cond_false, cond_true, if_true, hd, v1, v2, Option.bind_some]
          · simp (disch := first | omega | assumption | decide) only [qf146_2, qv_g4, qv_g6, qv_g8, qv_g16, qv_g32, qv_g48, qv_e4, qv_e6, qv_e8, qv_e16, qv_e32, qv_e48, qv_inT, qv_tN, qv_s1, cond_false, cond_true, if_true, h50, qu_10F, hd2, v3, Option.bind_some]
          · have hne : t ≠ k := fun e => by subst e; rw [v8] at g; exact absurd g (by decide)
            rw [v9 t hne] at g
            have := qb_Tc (v7 41 (by decide)) (v7 42 (by decide)) (v7 52 (by decide)) (q3 t ht g)
            by_cases e : t < k
            · rw [if_pos e] at this; rw [if_pos (by omega)]; exact this
            · rw [if_neg e] at this; rw [if_neg (by omega)]; exact this
          · have hne : t ≠ k := fun e => by subst e; rw [v8] at g; exact absurd g (by decide)
            rw [v9 t hne] at g
            rw [v7 52 (by decide)] at g2
            rw [v10 t hne]
            exact q4 t ht g g2
        · have hlt : B + (q + 1) * (qN (s' 41 0 c) / qN (s' 42 0 (8 * c + k))) < 2147483648 := by
            rw [h41]; omega
          have hd0 : ¬ Int32.ofNat (B + (q + 1) * (qN (s' 41 0 c) / qN (s' 42 0 (8 * c + k)))) = Int32.ofNat T := fun g => e (qv_mi _ _ g hlt (by omega)).symm
          have hd : qm_cmp .ne (s 14 k 3) (s 1 0 9) = true := by
            rw [hdue, w3, hnow, qv_ne]; exact decide_eq_true hd0
          have hd2 : qm_cmp .ne (s' 52 0 k) (s' 30 0 21) = true := by
            rw [w3, htime, qv_ne]; exact decide_eq_true hd0
          refine ⟨s, s', fun n => ?_, fun n => ?_, hskip (fun t ht g => ?_)⟩
          · simp (disch := first | omega | assumption | decide) only [qf77_2, qv_g4, qv_g6, qv_g8, qv_g16, qv_g32, qv_g48, qv_e4, qv_e6, qv_e8, qv_e16, qv_e32, qv_e48, qv_inT, qv_tN, qv_s1, cond_false, cond_true, if_true, hd]
          · simp (disch := first | omega | assumption | decide) only [qf146_2, qv_g4, qv_g6, qv_g8, qv_g16, qv_g32, qv_g48, qv_e4, qv_e6, qv_e8, qv_e16, qv_e32, qv_e48, qv_inT, qv_tN, qv_s1, cond_false, cond_true, if_true, h50, qu_10F, hd2]
          · have := q3 t ht g
            by_cases e2 : t < k
            · rw [if_pos e2] at this; rw [if_pos (by omega)]; exact this
            · by_cases e3 : t = k
              · subst e3
                rw [if_pos (by omega)]
                exact ⟨q, hq, w1, by omega, w3⟩
              · rw [if_neg e2] at this; rw [if_neg (by omega)]; exact this)
    8 0 4096 4096 x y (by decide) (by decide) (by decide) ⟨n, h, by omega, fun t ht' g => by rw [if_neg (Nat.not_lt_zero _)]; exact ht t ht' g, hcl, qfr_r, qfr_r⟩
  refine ⟨x', y', n', ?_, ?_, s3, by omega, fun t ht g => ?_, s7, s8⟩
  · unfold qf77
    show qf77_2 4096 (Int32.ofNat 0) x = _
    rw [s1]
    unfold qf77_2
    rw [qv_e8, cond_true]
  · unfold qf146
    show qf146_2 4096 (Int32.ofNat 0) y = _
    rw [s2]
    unfold qf146_2
    rw [qv_e8, cond_true]
  · have := s5 t ht g
    rw [if_pos ht] at this; exact this
/-- shown -/
theorem qi_act {x y : qp_S} {T B c n : Nat} (h : qb x y T B c n (fun _ => True)) (h0 : T = 0 → ∀ k, k < 8 → y 49 0 k = 0) : ∃ x' y', qf82 x = some (0, x') ∧ qf146_43 4096 0 y = qf146_115 4096 0 y' ∧ qb x' y' T B c n (fun _ => True) ∧ qfr [26] x x' ∧ qfr [48, 49] y y' := by
  have l0 : (0:Int32).toInt = 0 := rfl; have l1 : (1:Int32).toInt = 1 := rfl; have lm : (-1:Int32).toInt = -1 := rfl; have l3 : (3:Int32).toInt = 3 := rfl; have l4 : (4:Int32).toInt = 4 := rfl; have l5 : (5:Int32).toInt = 5 := rfl; have l6 : (6:Int32).toInt = 6 := rfl; have l7 : (7:Int32).toInt = 7 := rfl; have l8 : (8:Int32).toInt = 8 := rfl; have l15 : (15:Int32).toInt = 15 := rfl; have l16 : (16:Int32).toInt = 16 := rfl; have l32 : (32:Int32).toInt = 32 := rfl
  have hT : T ≤ 1000000 := h.2.2.2.2.2.2.2.2.2.2.1
  have tT := qv_tI T (by omega)
  obtain ⟨x', y', m, m', s1, s2, s3, s4, s5, s6⟩ := qv_loop4 (fun n k s => qf82_2 n (Int32.ofNat k) s) (fun n k s => qf146_43 n (Int32.ofNat k) s) 8 (fun k s s' => qb s s' T B c n (fun _ => True) ∧ (T = 0 → ∀ k, k < 8 → s' 49 0 k = 0) ∧ qfr [26] x s ∧ qfr [48, 49] y s')
    (by
      rintro k s s' hk ⟨q1, q2, q3, q4⟩
      have tk := qv_tI k (by omega)
      obtain ⟨hB, hW, hS, hP, hM, hG, hD, hE, hK, hJ, hZ⟩ := q1
      have hnow := hK.2.2.1
      have htime := hK.2.2.2.1
      obtain ⟨d1, d2, d3, d4, d5⟩ := hD.1 k
      rcases (hD.2 k hk).2 with hp | ⟨p, hp, ep⟩
      · refine ⟨s, s', fun n => ?_, fun n => ?_, ⟨hB, hW, hS, hP, hM, hG, hD, hE, hK, hJ, hZ⟩, q2, q3, q4⟩
        · have e : qm_cmp .eq (s 26 k 0) (-1) = true := by rw [d3, hp]; decide
          simp (disch := first | omega | assumption | decide) only [qf82_2, qv_g4, qv_g6, qv_g8, qv_g16, qv_g32, qv_g48, qv_e4, qv_e6, qv_e8, qv_e16, qv_e32, qv_e48, qv_inT, qv_tN, qv_s1, cond_false, cond_true, if_true, e]
        · have e : qm_cmp .ge (s' 47 0 k) 0 = false := by rw [hp]; decide
          simp (disch := first | omega | assumption | decide) only [qf146_43, qv_g4, qv_g6, qv_g8, qv_g16, qv_g32, qv_g48, qv_e4, qv_e6, qv_e8, qv_e16, qv_e32, qv_e48, qv_inT, qv_tN, qv_s1, cond_false, cond_true, if_true, e]
      · have tp := qv_tI p (by omega)
        have hp1 := d3.trans ep
        have e1 : qm_cmp .eq (Int32.ofNat p) (-1) = false := by rw [qv_eq]; exact decide_eq_false (qv_mm p (by omega))
        have e2 : qm_cmp .ge (Int32.ofNat p) 0 = true := by exact qu_geT (by omega)
        obtain ⟨v1, v2, v3, v4⟩ := hP p
        by_cases hv : s' 40 0 p = s' 48 0 k
        · have e3 : qf83 k (s 21 p 2) (s 1 0 9) s = some (0, s) := by
            unfold qf83
            rw [v3, d4, hv, qv_eq, decide_eq_true rfl, cond_true]
          have e4 : qm_cmp .ne (s' 40 0 p) (s' 48 0 k) = false := by rw [qv_ne]; exact decide_eq_false (fun g => g hv)
          have e5 : qp_up s' 48 0 k (s' 40 0 p) = s' := by
            funext a b c
            unfold qp_up
            by_cases g : a = 48 ∧ b = 0 ∧ c = k
            · rw [if_pos g]; obtain ⟨rfl, rfl, rfl⟩ := g; exact hv
            · rw [if_neg g]
          refine ⟨s, s', fun n => ?_, fun n => ?_, ⟨hB, hW, hS, hP, hM, hG, hD, hE, hK, hJ, hZ⟩, q2, q3, q4⟩
          · simp (disch := first | omega | assumption | decide) only [qf82_2, qv_g4, qv_g6, qv_g8, qv_g16, qv_g32, qv_g48, qv_e4, qv_e6, qv_e8, qv_e16, qv_e32, qv_e48, qv_inT, qv_tN, qv_s1, cond_false, cond_true, if_true, e1, hp1, e3, Option.bind_some]
          · by_cases hT0 : T = 0
            · have e6 : qm_cmp .ne (s' 30 0 21) 0 = false := by rw [htime, hT0]; decide
              have e7 : qp_up s' 49 0 k (s' 30 0 21) = s' := by
                funext a b c
                unfold qp_up
                by_cases g : a = 49 ∧ b = 0 ∧ c = k
                · rw [if_pos g]; obtain ⟨rfl, rfl, rfl⟩ := g; rw [q2 hT0 c hk, htime, hT0]; rfl
                · rw [if_neg g]
              simp (disch := first | omega | assumption | decide) only [qf146_43, qf146_90, qv_g4, qv_g6, qv_g8, qv_g16, qv_g32, qv_g48, qv_e4, qv_e6, qv_e8, qv_e16, qv_e32, qv_e48, qv_inT, qv_tN, qv_s1, cond_false, cond_true, if_true, e2, ep, e4, e6, e7, e5]
            · have e6 : qm_cmp .ne (s' 30 0 21) 0 = true := by rw [htime]; exact qu_neT (by omega)
              simp (disch := first | omega | assumption | decide) only [qf146_43, qf146_90, qv_g4, qv_g6, qv_g8, qv_g16, qv_g32, qv_g48, qv_e4, qv_e6, qv_e8, qv_e16, qv_e32, qv_e48, qv_inT, qv_tN, qv_s1, cond_false, cond_true, if_true, e2, ep, e4, e6, e5]
        · have e3 : qf83 k (s 21 p 2) (s 1 0 9) s = some (0, qp_up (qp_up s 26 k 1 (s' 40 0 p)) 26 k 2 (Int32.ofNat T)) := by
            unfold qf83
            rw [v3, d4, hnow, qv_eq, decide_eq_false (fun g => hv g.symm), cond_false]
          have e4 : qm_cmp .ne (s' 40 0 p) (s' 48 0 k) = true := by rw [qv_ne]; exact decide_eq_true hv
          refine ⟨qp_up (qp_up s 26 k 1 (s' 40 0 p)) 26 k 2 (Int32.ofNat T), qp_up (qp_up s' 49 0 k (Int32.ofNat T)) 48 0 k (s' 40 0 p), fun n => ?_, fun n => ?_, ⟨hB, hW, hS, hP, hM, hG, ⟨fun t => ?_, hD.2⟩, hE, hK, hJ, hZ⟩, fun hT0 t ht => ?_, qfr_up (by decide) (qfr_up (by decide) q3), qfr_up (by decide) (qfr_up (by decide) q4)⟩
          · simp (disch := first | omega | assumption | decide) only [qf82_2, qv_g4, qv_g6, qv_g8, qv_g16, qv_g32, qv_g48, qv_e4, qv_e6, qv_e8, qv_e16, qv_e32, qv_e48, qv_inT, qv_tN, qv_s1, cond_false, cond_true, if_true, e1, hp1, e3, Option.bind_some]
          · simp (disch := first | omega | assumption | decide) only [qf146_43, qf146_90, qv_g4, qv_g6, qv_g8, qv_g16, qv_g32, qv_g48, qv_e4, qv_e6, qv_e8, qv_e16, qv_e32, qv_e48, qv_inT, qv_tN, qv_s1, cond_false, cond_true, if_true, e2, ep, e4, htime]
          · by_cases e : t = k
            · subst e; simp (disch := first | omega | decide) only [qu_pk, qu_pj, qu_ps, qu_pi]; exact ⟨d1, d2, d3, trivial, trivial⟩
            · simp (disch := first | omega | decide) only [qu_pk, qu_pj, qu_ps, qu_pi]; exact hD.1 t
          · by_cases e : t = k
            · subst e; simp (disch := first | omega | decide) only [qu_pk, qu_pj, qu_ps, qu_pi]; rw [hT0]; rfl
            · simp (disch := first | omega | decide) only [qu_pk, qu_pj, qu_ps, qu_pi]; exact q2 hT0 t ht)
    8 0 4096 4096 x y (by decide) (by decide) (by decide) ⟨h, h0, qfr_r, qfr_r⟩
  refine ⟨x', y', ?_, ?_, s3, s5, s6⟩
  · unfold qf82
    show qf82_2 4096 (Int32.ofNat 0) x = _
    rw [s1]
    unfold qf82_2
    rw [qv_e8, cond_true]
  · show qf146_43 4096 (Int32.ofNat 0) y = _
    rw [s2]
    unfold qf146_43
    rw [qv_e8, cond_true]
/-- read -/
theorem qi_sen {x y : qp_S} {T B c n : Nat} (h : qb x y T B c n (fun _ => True)) : ∃ x' y', qf84 x = some (0, x') ∧ qf146_115 4096 0 y = ((qf155 y').bind fun q2 => qf146_169 4096 (0 : Int32) q2.2) ∧ qb x' y' T B c n (fun _ => True) ∧ qfr [21] x x' ∧ qfr [40] y y' := by
  have l0 : (0:Int32).toInt = 0 := rfl; have l1 : (1:Int32).toInt = 1 := rfl; have lm : (-1:Int32).toInt = -1 := rfl; have l3 : (3:Int32).toInt = 3 := rfl; have l4 : (4:Int32).toInt = 4 := rfl; have l5 : (5:Int32).toInt = 5 := rfl; have l6 : (6:Int32).toInt = 6 := rfl; have l7 : (7:Int32).toInt = 7 := rfl; have l8 : (8:Int32).toInt = 8 := rfl; have l15 : (15:Int32).toInt = 15 := rfl; have l16 : (16:Int32).toInt = 16 := rfl; have l32 : (32:Int32).toInt = 32 := rfl
  obtain ⟨x', y', m, m', s1, s2, s3, s5, s6⟩ := qv_loop4 (fun n k s => qf84_2 n (Int32.ofNat k) s) (fun n k s => qf146_115 n (Int32.ofNat k) s) 8 (fun k s s' => qb s s' T B c n (fun _ => True) ∧ qfr [21] x s ∧ qfr [40] y s')
    (by
      rintro k s s' hk ⟨q1, q3, q4⟩
      have tk := qv_tI k (by omega)
      obtain ⟨hB, hW, hS, hP, hM, hG, hD, hE, hK, hJ, hZ⟩ := q1
      obtain ⟨d1, d2, d3, d4, d5⟩ := hD.1 k
      rcases (hD.2 k hk).1 with hp | ⟨p, hp, ep⟩
      · refine ⟨s, s', fun n => ?_, fun n => ?_, ⟨hB, hW, hS, hP, hM, hG, hD, hE, hK, hJ, hZ⟩, q3, q4⟩
        · have e : qm_cmp .eq (s 5 0 k) (-1) = true := by rw [d1, hp]; decide
          simp (disch := first | omega | assumption | decide) only [qf84_2, qv_g4, qv_g6, qv_g8, qv_g16, qv_g32, qv_g48, qv_e4, qv_e6, qv_e8, qv_e16, qv_e32, qv_e48, qv_inT, qv_tN, qv_s1, cond_false, cond_true, if_true, e]
        · have e : qm_cmp .lt (s' 45 0 k) 0 = true := by rw [hp]; decide
          simp (disch := first | omega | assumption | decide) only [qf146_115, qv_g4, qv_g6, qv_g8, qv_g16, qv_g32, qv_g48, qv_e4, qv_e6, qv_e8, qv_e16, qv_e32, qv_e48, qv_inT, qv_tN, qv_s1, cond_false, cond_true, if_true, e]
      · have tp := qv_tI p (by omega)
        have hp1 := d1.trans ep
        have e1 : qm_cmp .eq (Int32.ofNat p) (-1) = false := by rw [qv_eq]; exact decide_eq_false (qv_mm p (by omega))
        have e2 : qm_cmp .lt (Int32.ofNat p) 0 = false := by exact qu_ltF (by omega)
        obtain ⟨v1, v2, v3, v4⟩ := hP p
        obtain ⟨cl, hcl⟩ : ∃ cl, cl = qm_max (s' 38 0 p) (qm_min (s' 39 0 p) (s' 46 0 k)) := ⟨_, rfl⟩
        have e3 : qf79 p (s 6 0 k) s = some (0, qp_up s 21 p 2 cl) := by
          unfold qf79; rw [v1, v2, d2, ← hcl]
        have e4 : qf153 (Int32.ofNat p) (s' 46 0 k) s' = some cl := by rw [hcl]; exact qb_153 hp v4
        refine ⟨qp_up s 21 p 2 cl, qp_up s' 40 0 p cl, fun n => ?_, fun n => ?_, ⟨hB, hW, hS, fun t => ?_, hM, hG, hD, hE, hK, hJ, hZ⟩, qfr_up (by decide) q3, qfr_up (by decide) q4⟩
        · simp (disch := first | omega | assumption | decide) only [qf84_2, qv_g4, qv_g6, qv_g8, qv_g16, qv_g32, qv_g48, qv_e4, qv_e6, qv_e8, qv_e16, qv_e32, qv_e48, qv_inT, qv_tN, qv_s1, cond_false, cond_true, if_true, e1, hp1, e3, Option.bind_some]
        · simp (disch := first | omega | assumption | decide) only [qf146_115, qv_g4, qv_g6, qv_g8, qv_g16, qv_g32, qv_g48, qv_e4, qv_e6, qv_e8, qv_e16, qv_e32, qv_e48, qv_inT, qv_tN, qv_s1, cond_false, cond_true, if_true, e2, ep, e4, Option.bind_some]
        · by_cases e : t = p
          · subst e; simp (disch := first | omega | decide) only [qu_pk, qu_pj, qu_ps, qu_pi]; exact ⟨v1, v2, trivial, v4⟩
          · simp (disch := first | omega | decide) only [qu_pk, qu_pj, qu_ps, qu_pi]; exact hP t)
    8 0 4096 4096 x y (by decide) (by decide) (by decide) ⟨h, qfr_r, qfr_r⟩
  refine ⟨x', y', ?_, ?_, s3, s5, s6⟩
  · unfold qf84
    show qf84_2 4096 (Int32.ofNat 0) x = _
    rw [s1]
    unfold qf84_2
    rw [qv_e8, cond_true]
  · show qf146_115 4096 (Int32.ofNat 0) y = _
    rw [s2]
    unfold qf146_115
    rw [qv_e8, cond_true]
