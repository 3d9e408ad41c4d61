/-! an instant; advance -/
theorem qv_ct {α : Type} (a b : α) : cond true a b = a := (Bool.cond_eq_ite true a b).trans (if_pos rfl)
theorem qv_cf {α : Type} (a b : α) : cond false a b = b := (Bool.cond_eq_ite false a b).trans (if_neg (fun h => by cases h))
theorem qi_rel {x y : qp_S} {T B c n : Nat} (h : qb x y T B c n (fun _ => True)) (hTP : T < B + qN (y 41 0 c)) (ht : ∀ t, t < 8 → y 50 0 t = 1 → qb_T y T B c t 1) : ∃ x' y', qf88 x = some (0, x') ∧ qf146_169 4096 0 y = some (0, y') ∧ qb x' y' T B c n (fun _ => True) ∧ (∀ t, t < 8 → y' 50 0 t = 1 → qa_T y' T B c t) ∧ qfr [14, 16] x x' ∧ qfr [30, 36, 50, 51, 52, 53, 54, 55, 57, 58, 59] y y' := by
  obtain ⟨x', y', m, m', s1, s2, s3, s4, s5, s6⟩ := qv_loop4 (fun n k s => qf88_2 n (Int32.ofNat k) s) (fun n k s => qf146_169 n (Int32.ofNat k) s) 8 (fun k s s' => qb s s' T B c n (fun _ => True) ∧ (∀ t, t < 8 → s' 50 0 t = 1 → (t < k → qa_T s' T B c t) ∧ (¬ t < k → qb_T s' T B c t 1)) ∧ qfr [14, 16] x s ∧ qfr [30, 36, 50, 51, 52, 53, 54, 55, 57, 58, 59] y s')
    (by
      rintro k s s' hk ⟨q1, q2, q3, q4⟩
      obtain ⟨x', y', v1, v2, v3, v4, v5, v6, v7⟩ := qi_rel1 q1 hk (by rw [q4 41 (by decide)]; exact hTP) (fun g => (q2 k hk g).2 (Nat.lt_irrefl k))
      refine ⟨x', y', v1, fun n => ?_, v3, fun t htt g => ?_, qfr_t q3 v6, qfr_t q4 v7⟩
      · have tk := qv_tI k (by omega)
        simp (disch := first | omega | assumption | decide) only [qf146_169, qv_g4, qv_g6, qv_g8, qv_g16, qv_g32, qv_g48, qv_e4, qv_e6, qv_e8, qv_e16, qv_e32, qv_e48, qv_inT, qv_tN, qv_s1, qv_ct, qv_cf, if_true, v2, Option.bind_some]
      · by_cases e : t = k
        · subst e
          exact ⟨fun _ => v4 g, fun g2 => absurd (Nat.lt_succ_self t) g2⟩
        · obtain ⟨w1, w2⟩ := v5 t e
          rw [w1] at g
          obtain ⟨u1, u2⟩ := q2 t htt g
          have c1 : y' 41 = s' 41 := v7 41 (by decide)
          have c2 : y' 42 = s' 42 := v7 42 (by decide)
          refine ⟨fun g2 => ?_, fun g2 => ?_⟩
          · have := u1 (by omega)
            unfold qa_T; rw [c1, c2, w2]; exact this
          · have := u2 (by omega)
            unfold qb_T; rw [c1, c2, w2]; exact this)
    8 0 4096 4096 x y (by decide) (by decide) (by decide) ⟨h, fun t htt g => ⟨fun g2 => absurd g2 (Nat.not_lt_zero _), fun _ => ht t htt g⟩, qfr_r, qfr_r⟩
  refine ⟨x', y', ?_, ?_, s3, fun t htt g => (s4 t htt g).1 htt, s5, s6⟩
  · unfold qf88
    show qf88_2 4096 (Int32.ofNat 0) x = _
    rw [s1]
    unfold qf88_2
    rw [qv_e8, cond_true]
  · show qf146_169 4096 (Int32.ofNat 0) y = _
    rw [s2]
    unfold qf146_169
    rw [qv_e8, cond_true]
theorem qi_all {x y : qp_S} {T B c n : Nat} (h : qb x y T B c n (fun _ => True)) (hn : n ≤ 48 * T) (ht : ∀ t, t < 8 → y 50 0 t = 1 → qb_T y T B c t 0) (hcl : ∀ t, t < 8 → y 50 0 t = 1 → y 52 0 t = Int32.ofNat T → ¬ 0 < (x 14 t 9).toInt) (hTP : T ≤ B + qN (y 41 0 c)) (h0 : T = 0 → ∀ k, k < 8 → y 49 0 k = 0) : ∃ x' y' B' c' n', qf76 x = some (0, x') ∧ qf146 y = some (0, y') ∧ qa x' y' true T B' c' n' ∧ y' 30 0 0 = 0 ∧ (∀ k, 30 ≤ k → x' k = x k) ∧ ∀ k, k < 30 → y' k = y k := by
  obtain ⟨x1, y1, n1, a1, a2, a3, a4, a5, a6, a7⟩ := qi_pub h hn ht hcl
  obtain ⟨x2, y2, b1, b2, b3, b4, b5⟩ := qi_act a3 (fun g k hk => by rw [a7 49 (by decide)]; exact h0 g k hk)
  obtain ⟨x3, y3, c1, c2, c3, c4, c5⟩ := qi_sen b3
  have e41 : y3 41 = y 41 := by rw [c5 41 (by decide), b5 41 (by decide), a7 41 (by decide)]
  obtain ⟨x4, y4, B', c', d1, d2, d3, d4, d5, d6, d7⟩ := qi_turn c3 (by rw [e41]; exact hTP) (fun t htt g => by
    rw [c5 50 (by decide), b5 50 (by decide)] at g
    refine qb_Tc (y := y1) ?_ ?_ ?_ (a5 t htt g)
    · rw [c5 41 (by decide), b5 41 (by decide)]
    · rw [c5 42 (by decide), b5 42 (by decide)]
    · rw [c5 52 (by decide), b5 52 (by decide)])
  obtain ⟨x5, y5, f1, f2, f3, f4, f5, f6⟩ := qi_rel d3 d4 d5
  refine ⟨x5, y5, B', c', n1, ?_, ?_, ?_, ?_, fun k hk => ?_, fun k hk => ?_⟩
  · unfold qf76
    rw [a1, Option.bind_some, b1, Option.bind_some, c1, Option.bind_some, d1, Option.bind_some, f1, Option.bind_some]
  · rw [a2, b2, c2, d2, Option.bind_some]
    exact f2
  · obtain ⟨hB, hW, hS, hP, hM, hG, hD, hE, hK, hJ, hZ⟩ := f3
    refine ⟨hB, hW, hS, hP, hM, hG, hD, hE, hK, fun t htt => hJ t htt trivial, hZ.1, hZ.2.1, hZ.2.2.1, by omega, (fun g => by cases g), fun _ => ⟨hZ.2.2.2.1, hZ.2.2.2.2.1, ?_, f4⟩⟩
    rw [f6 41 (by decide)]; exact d4
  · exact f3.2.2.2.2.2.2.2.2.2.2.2.2.2.2.2
  · have m : ∀ L : List Nat, (∀ j, j ∈ L → j < 30) → ¬ k ∈ L := fun L hL g => by have := hL k g; omega
    rw [f5 k (m _ (by decide)), d6 k (m _ (by decide)), c4 k (m _ (by decide)), b4 k (m _ (by decide)), a6 k (m _ (by decide))]
  · have m : ∀ L : List Nat, (∀ j, j ∈ L → 30 ≤ j) → ¬ k ∈ L := fun L hL g => by have := hL k g; omega
    rw [f6 k (m _ (by decide)), d7 k (m _ (by decide)), c5 k (m _ (by decide)), b5 k (m _ (by decide)), a7 k (m _ (by decide))]
/-- may time go on -/
theorem qi_110 {x y : qp_S} {r : Bool} {T B c n : Nat} (h : qa x y r T B c n) : ∃ b : Bool, qf110_21 4096 0 x = some (bif b then .inl 72 else .inr 0) ∧ qf163_4 4096 0 0 y = (bif qm_cmp .eq (y 30 0 20) (0 : Int32) then qf163_70 y else (bif qm_cmp .ne (qv_b b) (0 : Int32) then qf163_70 y else (bif qm_cmp .ne (y 30 0 21) (1000000 : Int32) then qf163_75 (0 : Int32) y else qf163_70 y))) ∧ (b = false → ∀ t, t < 8 → y 50 0 t = 1 → y 52 0 t = Int32.ofNat (T + 1) → ¬ 0 < (x 14 t 9).toInt) := by
  have l0 : (0:Int32).toInt = 0 := rfl; have l1 : (1:Int32).toInt = 1 := rfl; have lm : (-1:Int32).toInt = -1 := rfl; have l3 : (3:Int32).toInt = 3 := rfl; have l4 : (4:Int32).toInt = 4 := rfl; have l5 : (5:Int32).toInt = 5 := rfl; have l6 : (6:Int32).toInt = 6 := rfl; have l7 : (7:Int32).toInt = 7 := rfl; have l8 : (8:Int32).toInt = 8 := rfl; have l15 : (15:Int32).toInt = 15 := rfl; have l16 : (16:Int32).toInt = 16 := rfl; have l32 : (32:Int32).toInt = 32 := rfl
  obtain ⟨hB, hW, hS, hP, hM, hG, hD, hE, hK, hJ, hZ⟩ := h
  have hnow := hK.2.2.1
  have htime := hK.2.2.2.1
  have ex : x 1 0 9 + 1 = Int32.ofNat (T + 1) := by rw [hnow]; exact qv_s1 T
  have ey : y 30 0 21 + 1 = Int32.ofNat (T + 1) := by rw [htime]; exact qv_s1 T
  -- which tasks are late
  have hdue : ∀ t, t < 8 → 0 < (x 14 t 9).toInt → y 50 0 t = 1 ∧ x 14 t 3 = y 52 0 t := by
    intro t htt ho
    rcases hJ t htt with hj | hj
    · rw [hj.2.2.2.1] at ho; exact absurd ho (by decide)
    · obtain ⟨a1, a, t, b, a2, a3, a4, a5, a6, a7, a8, a9, a10, a11, a12, a13, a14, a15⟩ := hj
      exact ⟨a1, a14⟩
  have hstep : ∀ k, k < 8 → (0 < (x 14 k 9).toInt ∧ y 52 0 k = Int32.ofNat (T + 1) ∧ (∀ m, qf110_21 (m + 1) (Int32.ofNat k) x = some (.inl 72)) ∧ ∀ m, qf163_4 (m + 1) 0 (Int32.ofNat k) y = qf163_4 m 1 (Int32.ofNat (k + 1)) y) ∨ (¬ (0 < (x 14 k 9).toInt ∧ y 52 0 k = Int32.ofNat (T + 1)) ∧ (∀ m, qf110_21 (m + 1) (Int32.ofNat k) x = qf110_21 m (Int32.ofNat (k + 1)) x) ∧ ∀ m, qf163_4 (m + 1) 0 (Int32.ofNat k) y = qf163_4 m 0 (Int32.ofNat (k + 1)) y) := by
    intro k hk
    have tk := qv_tI k (by omega)
    have h1 := qu_16 k x
    have h2 := qu_160 hk (hJ k hk)
    by_cases ho : 0 < (x 14 k 9).toInt
    · rw [decide_eq_true ho] at h1 h2
      obtain ⟨-, d2⟩ := hdue k hk ho
      by_cases hd : y 52 0 k = Int32.ofNat (T + 1)
      · left
        have e1 : qm_cmp .ne (Int32.ofNat (T + 1)) (Int32.ofNat (T + 1)) = false := by rw [qv_ne]; exact decide_eq_false (fun g => g rfl)
        refine ⟨ho, hd, fun m => ?_, fun m => ?_⟩
        · simp (disch := first | omega | assumption | decide) only [qf110_21, qv_g4, qv_g6, qv_g8, qv_g16, qv_g32, qv_g48, qv_e4, qv_e6, qv_e8, qv_e16, qv_e32, qv_e48, qv_inT, qv_tN, qv_s1, qv_ct, qv_cf, if_true, h1, Option.bind_some, qv_eq0, Bool.not_true, d2, hd, ex, e1]
        · simp (disch := first | omega | assumption | decide) only [qf163_4, qv_g4, qv_g6, qv_g8, qv_g16, qv_g32, qv_g48, qv_e4, qv_e6, qv_e8, qv_e16, qv_e32, qv_e48, qv_inT, qv_tN, qv_s1, qv_ct, qv_cf, if_true, h2, Option.bind_some, qv_eq0, Bool.not_true, hd, ey, e1, qu_n00]
      · right
        have e1 : qm_cmp .ne (y 52 0 k) (Int32.ofNat (T + 1)) = true := by rw [qv_ne]; exact decide_eq_true hd
        refine ⟨fun g => hd g.2, fun m => ?_, fun m => ?_⟩
        · simp (disch := first | omega | assumption | decide) only [qf110_21, qv_g4, qv_g6, qv_g8, qv_g16, qv_g32, qv_g48, qv_e4, qv_e6, qv_e8, qv_e16, qv_e32, qv_e48, qv_inT, qv_tN, qv_s1, qv_ct, qv_cf, if_true, h1, Option.bind_some, qv_eq0, Bool.not_true, d2, ex, e1]
        · simp (disch := first | omega | assumption | decide) only [qf163_4, qv_g4, qv_g6, qv_g8, qv_g16, qv_g32, qv_g48, qv_e4, qv_e6, qv_e8, qv_e16, qv_e32, qv_e48, qv_inT, qv_tN, qv_s1, qv_ct, qv_cf, if_true, h2, Option.bind_some, qv_eq0, Bool.not_true, ey, e1, qu_n00]
    · rw [decide_eq_false ho] at h1 h2
      right
      refine ⟨fun g => ho g.1, fun m => ?_, fun m => ?_⟩
      · simp (disch := first | omega | assumption | decide) only [qf110_21, qv_g4, qv_g6, qv_g8, qv_g16, qv_g32, qv_g48, qv_e4, qv_e6, qv_e8, qv_e16, qv_e32, qv_e48, qv_inT, qv_tN, qv_s1, qv_ct, qv_cf, if_true, h1, Option.bind_some, qv_eq0, Bool.not_false]
      · simp (disch := first | omega | assumption | decide) only [qf163_4, qv_g4, qv_g6, qv_g8, qv_g16, qv_g32, qv_g48, qv_e4, qv_e6, qv_e8, qv_e16, qv_e32, qv_e48, qv_inT, qv_tN, qv_s1, qv_ct, qv_cf, if_true, h2, Option.bind_some, qv_eq0, Bool.not_false, qu_n00]
  have hlate : ∀ d k n, k + d = 8 → d < n → qf163_4 n 1 (Int32.ofNat k) y = (bif qm_cmp .eq (y 30 0 20) (0 : Int32) then qf163_70 y else (bif qm_cmp .ne (qv_b true) (0 : Int32) then qf163_70 y else (bif qm_cmp .ne (y 30 0 21) (1000000 : Int32) then qf163_75 (0 : Int32) y else qf163_70 y))) := by
    intro d
    induction d with
    | zero =>
      intro k n h1 h2
      obtain ⟨n, rfl⟩ : ∃ z, n = z + 1 := ⟨n - 1, by omega⟩
      obtain rfl : k = 8 := by omega
      unfold qf163_4
      rw [qv_e8, cond_true, show qv_b true = 1 from rfl]
    | succ d ih =>
      intro k n h1 h2
      obtain ⟨n, rfl⟩ : ∃ z, n = z + 1 := ⟨n - 1, by omega⟩
      rw [← ih (k + 1) n (by omega) (by omega)]
      simp (disch := first | omega | assumption | decide) only [qf163_4, qv_g4, qv_g6, qv_g8, qv_g16, qv_g32, qv_g48, qv_e4, qv_e6, qv_e8, qv_e16, qv_e32, qv_e48, qv_inT, qv_tN, qv_s1, qv_ct, qv_cf, if_true, qu_n10]
  have hmain : ∀ d k n n', k + d = 8 → d < n → d < n' → ∃ b : Bool, qf110_21 n (Int32.ofNat k) x = some (bif b then .inl 72 else .inr 0) ∧ qf163_4 n' 0 (Int32.ofNat k) y = (bif qm_cmp .eq (y 30 0 20) (0 : Int32) then qf163_70 y else (bif qm_cmp .ne (qv_b b) (0 : Int32) then qf163_70 y else (bif qm_cmp .ne (y 30 0 21) (1000000 : Int32) then qf163_75 (0 : Int32) y else qf163_70 y))) ∧ (b = false → ∀ t, k ≤ t → t < 8 → ¬ (0 < (x 14 t 9).toInt ∧ y 52 0 t = Int32.ofNat (T + 1))) := by
    intro d
    induction d with
    | zero =>
      intro k n n' h1 h2 h3
      obtain ⟨n, rfl⟩ : ∃ z, n = z + 1 := ⟨n - 1, by omega⟩
      obtain ⟨n', rfl⟩ : ∃ z, n' = z + 1 := ⟨n' - 1, by omega⟩
      obtain rfl : k = 8 := by omega
      refine ⟨false, ?_, ?_, fun _ t g1 g2 => by omega⟩
      · unfold qf110_21
        rw [qv_e8, cond_true]; rfl
      · unfold qf163_4
        rw [qv_e8, cond_true, show qv_b false = 0 from rfl]
    | succ d ih =>
      intro k n n' h1 h2 h3
      obtain ⟨n, rfl⟩ : ∃ z, n = z + 1 := ⟨n - 1, by omega⟩
      obtain ⟨n', rfl⟩ : ∃ z, n' = z + 1 := ⟨n' - 1, by omega⟩
      rcases hstep k (by omega) with ⟨g1, g2, g3, g4⟩ | ⟨g1, g3, g4⟩
      · exact ⟨true, g3 n, (g4 n').trans (hlate d (k + 1) n' (by omega) (by omega)), fun e => by cases e⟩
      · obtain ⟨b, w1, w2, w3⟩ := ih (k + 1) n n' (by omega) (by omega) (by omega)
        refine ⟨b, (g3 n).trans w1, (g4 n').trans w2, fun e t ht1 ht2 => ?_⟩
        by_cases e2 : t = k
        · subst e2; exact g1
        · exact w3 e t (by omega) ht2
  obtain ⟨b, w1, w2, w3⟩ := hmain 8 0 4096 4096 (by decide) (by decide) (by decide)
  refine ⟨b, ?_, ?_, fun e t ht g1 g2 g3 => w3 e t (by omega) ht ⟨g3, g2⟩⟩
  · show qf110_21 4096 (Int32.ofNat 0) x = _
    exact w1
  · show qf163_4 4096 0 (Int32.ofNat 0) y = _
    exact w2
theorem qo13 : qo_op13 qR := by
  rintro s ⟨r, T, B, c, n, h⟩
  have l0 : (0:Int32).toInt = 0 := rfl; have l1 : (1:Int32).toInt = 1 := rfl; have lm : (-1:Int32).toInt = -1 := rfl; have l3 : (3:Int32).toInt = 3 := rfl; have l4 : (4:Int32).toInt = 4 := rfl; have l5 : (5:Int32).toInt = 5 := rfl; have l6 : (6:Int32).toInt = 6 := rfl; have l7 : (7:Int32).toInt = 7 := rfl; have l8 : (8:Int32).toInt = 8 := rfl; have l15 : (15:Int32).toInt = 15 := rfl; have l16 : (16:Int32).toInt = 16 := rfl; have l32 : (32:Int32).toInt = 32 := rfl; have lM : (1000000:Int32).toInt = 1000000 := rfl
  have k1 := h.2.2.2.2.2.2.2.2.1.1; have k2 := h.2.2.2.2.2.2.2.2.1.2.1
  obtain ⟨b, w1, w2, w3⟩ := qi_110 h
  have hK := h.2.2.2.2.2.2.2.2.1
  have hZ := h.2.2.2.2.2.2.2.2.2.2
  obtain ⟨z1, z2, z3, z4, z5, z6⟩ := hZ
  have tT := qv_tI T (by omega)
  have hnow := hK.2.2.1
  have htime := hK.2.2.2.1
  have hthr : qf163_70 s = some (0, qp_up s 30 0 0 1) := rfl
  cases r with
  | false =>
    refine ⟨0, _, qR_thr 1 h, Or.inr ⟨?_, ?_, rfl⟩⟩
    · have k4 : qf106 s = some (.inl 72) := by rw [qv106, k1]; rfl
      unfold qf109
      rw [k4]; rfl
    · unfold qf163
      rw [w2, k2, hthr]; rfl
  | true =>
    have k4 : qf106 s = some (.inr 0) := by rw [qv106, k1]; rfl
    by_cases hT : T = 1000000
    · refine ⟨0, _, qR_thr 1 h, Or.inr ⟨?_, ?_, rfl⟩⟩
      · unfold qf109 qf110
        rw [k4, hnow]
        simp (disch := first | omega | assumption | decide) only [qu_ltT, qu_ltF, qu_gtT, qu_gtF, qu_geT, qu_geF, qu_leT, qu_leF, qu_eqT, qu_eqF, qu_neT, qu_neF, qu_inT, qu_24T, qu_24F, qu_116T, qu_116F, qu_13T, qu_13F, qu_25T, qu_25F, qu_26T, qu_26F, qu_117a, qu_117b, qu_117c, qu_117d, qu_10F, qu_00T, qu_n10, qu_n00, Option.bind_some, cond_true, cond_false, if_true, qv_tN]
      · unfold qf163
        have e1 : qm_cmp .ne (Int32.ofNat T) 1000000 = false := by rw [hT]; decide
        rw [w2, k2, hthr, htime, e1]
        cases b <;> rfl
    · have e110 : qf110 s = some (bif b then .inl 72 else .inr 0) := by
        unfold qf110
        rw [hnow]
        simp (disch := first | omega | assumption | decide) only [qu_ltT, qu_ltF, qu_gtT, qu_gtF, qu_geT, qu_geF, qu_leT, qu_leF, qu_eqT, qu_eqF, qu_neT, qu_neF, qu_inT, qu_24T, qu_24F, qu_116T, qu_116F, qu_13T, qu_13F, qu_25T, qu_25F, qu_26T, qu_26F, qu_117a, qu_117b, qu_117c, qu_117d, qu_10F, qu_00T, qu_n10, qu_n00, Option.bind_some, cond_true, cond_false, if_true, qv_tN]
        exact w1
      have e1 : qm_cmp .ne (Int32.ofNat T) 1000000 = true := qu_neT (by omega)
      cases b with
      | true =>
        refine ⟨0, _, qR_thr 1 h, Or.inr ⟨?_, ?_, rfl⟩⟩
        · unfold qf109
          rw [k4, e110]; rfl
        · unfold qf163
          rw [w2, k2, hthr]; rfl
      | false =>
        obtain ⟨u1, u2, u3, u4⟩ := z6 rfl
        have hcl := w3 rfl
        -- what holds when time has gone on
        have hpre : ∀ y : qp_S, (∀ k, 30 ≤ k → y k = s k) → qb (qp_up s 1 0 9 (Int32.ofNat (T + 1))) (qp_up (qp_up y 30 0 0 0) 30 0 21 (Int32.ofNat (T + 1))) (T + 1) B c n (fun _ => True) := by
          intro y hy
          have hq : qa s y true T B c n := qa_cg (fun _ _ => rfl) hy h
          obtain ⟨hB, hW, hS, hP, hM, hG, hD, hE, hK, hJ, hZ⟩ := hq
          obtain ⟨j1, j2, j3, j4, j5, j6, j7, j8, j9, j10⟩ := hK
          exact ⟨hB, hW, hS, hP, hM, hG, hD, hE, ⟨j1, j2, rfl, rfl, j5, j6, j7, j8, j9, j10⟩, fun i hi _ => hJ i hi, by omega, by omega, z3, (hZ.2.2.2.2.2 rfl).1, (hZ.2.2.2.2.2 rfl).2.1, rfl⟩
        have hrun : ∀ y : qp_S, (∀ k, 30 ≤ k → y k = s k) → ∃ x' y' B' c' n', qf76 (qp_up s 1 0 9 (Int32.ofNat (T + 1))) = some (0, x') ∧ qf146 (qp_up (qp_up y 30 0 0 0) 30 0 21 (Int32.ofNat (T + 1))) = some (0, y') ∧ qa x' y' true (T + 1) B' c' n' ∧ y' 30 0 0 = 0 ∧ (∀ k, 30 ≤ k → x' k = (qp_up s 1 0 9 (Int32.ofNat (T + 1))) k) ∧ ∀ k, k < 30 → y' k = (qp_up (qp_up y 30 0 0 0) 30 0 21 (Int32.ofNat (T + 1))) k := by
          intro y hy
          have y50 : y 50 = s 50 := hy 50 (by decide)
          have y52 : y 52 = s 52 := hy 52 (by decide)
          have y41 : y 41 = s 41 := hy 41 (by decide)
          have y42 : y 42 = s 42 := hy 42 (by decide)
          refine qi_all (hpre y hy) (by omega) (fun t htt g => ?_) (fun t htt g g2 => ?_) ?_ (fun g => by omega)
          · have g : y 50 0 t = 1 := g
            rw [y50] at g
            obtain ⟨q, v1, v2, v3, v4⟩ := u4 t htt g
            show ∃ q, q < qN (y 42 0 (8 * c + t)) ∧ B + q * (qN (y 41 0 c) / qN (y 42 0 (8 * c + t))) < T + 1 ∧ T + 1 + 0 ≤ B + (q + 1) * (qN (y 41 0 c) / qN (y 42 0 (8 * c + t))) ∧ y 52 0 t = Int32.ofNat (B + (q + 1) * (qN (y 41 0 c) / qN (y 42 0 (8 * c + t))))
            rw [y41, y42, y52]
            exact ⟨q, v1, by omega, by omega, v4⟩
          · have g : y 50 0 t = 1 := g
            have g2 : y 52 0 t = Int32.ofNat (T + 1) := g2
            rw [y50] at g
            rw [y52] at g2
            exact hcl t htt g g2
          · show T + 1 ≤ B + qN (y 41 0 c)
            rw [y41]; omega
        obtain ⟨x', -, -, -, -, e76, -, -, -, hFx, -⟩ := hrun s (fun _ _ => rfl)
        have hFx' : ∀ k, 30 ≤ k → x' k = s k := by
          intro k hk
          rw [hFx k hk]
          funext e f
          exact qu_pk (by omega)
        obtain ⟨x2, y', B', c', n', e76', e146, hq, hthr0, -, hFy⟩ := hrun x' hFx'
        obtain rfl : x' = x2 := by
          have := e76.symm.trans e76'
          injection this with g; injection g
        have e20 : x' 30 0 20 = qv_b true := by rw [hFx' 30 (by decide)]; exact k2
        have e21 : x' 30 0 21 = Int32.ofNat T := by rw [hFx' 30 (by decide)]; exact htime
        obtain ⟨b2, v1, v2, -⟩ := qi_110 (x := s) (y := x') (qa_cg (fun _ _ => rfl) hFx' h)
        have hb2 : b2 = false := by
          have g := w1.symm.trans v1
          cases b2
          · rfl
          · injection g with g; cases g
        subst hb2
        refine ⟨Int32.ofNat (T + 1), y', ⟨true, T + 1, B', c', n', qa_cg (fun k hk => ?_) (fun _ _ => rfl) hq⟩, Or.inl ⟨(Int32.ofNat (T + 1), x'), ?_, ?_, hthr0, rfl⟩⟩
        · rw [hFy k hk]
          funext e f
          rw [qu_pk (by omega), qu_pk (by omega)]
        · unfold qf109
          have e9 : s 1 0 9 + 1 = Int32.ofNat (T + 1) := by rw [hnow]; exact qv_s1 T
          rw [k4, e110, e9]
          simp only [Option.bind_some, cond_false, e76]
          have := hq.2.2.2.2.2.2.2.2.1.2.2.1
          rw [this]
        · unfold qf163
          rw [v2, e20, e21, e1]
          show qf163_75 0 x' = _
          unfold qf163_75
          have e5 : (qp_up x' 30 0 0 0) 30 0 21 + 1 = Int32.ofNat (T + 1) := by
            rw [qu_pj (by decide), e21]; exact qv_s1 T
          rw [e5]
          have e6 : qm_cmp .le ((qp_up x' 30 0 0 0) 30 0 0) 0 = true := by rw [qu_ps]; decide
          rw [e6, cond_true, e146, Option.bind_some]
          have := hq.2.2.2.2.2.2.2.2.1.2.2.2.1
          dsimp only
          rw [this]
