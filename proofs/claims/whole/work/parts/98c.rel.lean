/-! an instant: jobs are released -/
theorem qv_div (a b : Nat) (ha : a < 2147483648) (hb : b < 2147483648) : Int32.ofNat a / Int32.ofNat b = Int32.ofNat (a / b) := (Int32.ofNat_div ha hb).symm
theorem qv_rem (a b : Nat) (ha : a < 2147483648) (hb : b < 2147483648) : Int32.ofNat a - Int32.ofNat a / Int32.ofNat b * Int32.ofNat b = Int32.ofNat (a % b) := by
  rw [qv_div a b ha hb, qv_mul]
  have h : a / b * b ≤ a := Nat.div_mul_le_self a b
  rw [qv_sub _ _ h]
  congr 1
  have := Nat.div_add_mod a b
  rw [Nat.mul_comm] at this
  omega
/-- the slots of a task latch -/
theorem qi_lat {x y : qp_S} {T B c n i : Nat} (h : qb x y T B c n (fun t => t ≠ i)) (hi : i < 8) (hv : ∀ j, j < 6 → x 16 (6 * i + j) 2 = y 36 0 (6 * i + j)) (a2 : Int32) : ∃ x' y' m, qf90_21 4096 i 0 x = some (0, x') ∧ qf157_46 4096 (Int32.ofNat i) a2 0 y = qf157_46 (m + 1) (Int32.ofNat i) a2 (Int32.ofNat 6) y' ∧ qb x' y' T B c n (fun t => t ≠ i) ∧ (∀ j, j < 6 → x' 16 (6 * i + j) 2 = y' 36 0 (6 * i + j)) ∧ qfr [16] x x' ∧ qfr [36] y y' := by
  have l0 : (0:Int32).toInt = 0 := rfl; have l1 : (1:Int32).toInt = 1 := rfl; have lm : (-1:Int32).toInt = -1 := rfl; have l3 : (3:Int32).toInt = 3 := rfl; have l4 : (4:Int32).toInt = 4 := rfl; have l5 : (5:Int32).toInt = 5 := rfl; have l6 : (6:Int32).toInt = 6 := rfl; have l7 : (7:Int32).toInt = 7 := rfl; have l8 : (8:Int32).toInt = 8 := rfl; have l15 : (15:Int32).toInt = 15 := rfl; have l16 : (16:Int32).toInt = 16 := rfl; have l32 : (32:Int32).toInt = 32 := rfl
  have ti := qv_tI i (by omega)
  obtain ⟨x', y', m, m', s1, s2, s3, s4, s5, s6⟩ := qv_loop4 (fun n k s => qf90_21 n i (Int32.ofNat k) s) (fun n k s => qf157_46 n (Int32.ofNat i) a2 (Int32.ofNat k) s) 6 (fun k s s' => qb s s' T B c n (fun t => t ≠ i) ∧ (∀ j, j < 6 → s 16 (6 * i + j) 2 = s' 36 0 (6 * i + j)) ∧ qfr [16] x s ∧ qfr [36] y s')
    (by
      rintro k s s' hk ⟨q1, q2, q3, q4⟩
      have tk := qv_tI k (by omega)
      obtain ⟨hB, hW, hS, hP, hM, hG, hD, hE, hK, hJ, hZ⟩ := q1
      have ew := hS.1 (6 * i + k)
      obtain ⟨p, hp, ep⟩ := (hS.2.2.1 (6 * i + k) (by omega)).2
      have tp := qv_tI p (by omega)
      have ep2 := (hS.2.1 (6 * i + k)).trans ep
      by_cases hw : s' 34 0 (6 * i + k) = 0
      · have e1 : qm_cmp .ne (s 16 (6 * i + k) 0) 0 = false := by rw [ew, hw]; decide
        have e2 : qm_cmp .ne (s' 34 0 (6 * i + k)) 0 = false := by rw [hw]; decide
        have v := (hP p).2.2.1
        refine ⟨qp_up s 16 (6 * i + k) 2 (s' 40 0 p), qp_up s' 36 0 (6 * i + k) (s' 40 0 p), fun n => ?_, fun n => ?_, ⟨hB, hW, ⟨fun t => ?_, fun t => ?_, hS.2.2.1, fun t ht g => ?_⟩, hP, hM, hG, hD, hE, hK, fun t ht hti => ?_, hZ⟩, fun j hj => ?_, qfr_up (by decide) q3, qfr_up (by decide) q4⟩
        · simp (disch := first | omega | assumption | decide) only [qf90_21, qv_g4, qv_g6, qv_g8, qv_g16, qv_g32, qv_g48, qv_e4, qv_e6, qv_e8, qv_e16, qv_e32, qv_e48, qv_inT, qv_tN, qv_s1, cond_false, cond_true, if_true, e1, ep2, v]
        · simp (disch := first | omega | assumption | decide) only [qf157_46, qv_g4, qv_g6, qv_g8, qv_g16, qv_g32, qv_g48, qv_e4, qv_e6, qv_e8, qv_e16, qv_e32, qv_e48, qv_inT, qv_tN, qv_s1, cond_false, cond_true, if_true, qu_ltT, qu_ltF, qu_gtT, qu_gtF, qu_geT, qu_geF, qu_leT, qu_leF, qu_eqT, qu_eqF, qu_neT, qu_neF, qu_inT, qu_24T, qu_24F, qu_116T, qu_116F, qu_13T, qu_13F, qu_25T, qu_25F, qu_26T, qu_26F, qu_117a, qu_117b, qu_117c, qu_117d, qu_10F, qu_00T, qu_n10, qu_n00, Option.bind_some, cond_true, cond_false, if_true, qv_tN, qv_c6, qv_c4, qv_c8, qv_c32, qv_d4, qv_d16, qv_f4, qv_a1, qv_a2, qv_a3, qv_add, qv_inT, e2, ep]
        · simp (disch := first | omega | decide) only [qu_pk, qu_pj, qu_ps, qu_pi]; exact hS.1 t
        · simp (disch := first | omega | decide) only [qu_pk, qu_pj, qu_ps, qu_pi]; exact hS.2.1 t
        · by_cases e : t = 6 * i + k
          · subst e
            have g : s' 34 0 (6 * i + k) = -1 := g
            rw [hw] at g; exact absurd g (by decide)
          · simp (disch := first | omega | decide) only [qu_pk, qu_pj, qu_ps, qu_pi]; exact hS.2.2.2 t ht g
        · refine qa_Jy (y := s') rfl rfl rfl rfl rfl rfl rfl rfl (qj_0c (fun j hj => rfl) (fun j hj => qu_pj (by omega))) (qa_Jx (x := s) (fun _ _ => rfl) rfl (fun _ => rfl) (fun _ => rfl) (fun j hj => qu_pi (by omega)) (hJ t ht hti))
        · by_cases e : j = k
          · subst e; simp (disch := first | omega | decide) only [qu_pk, qu_pj, qu_ps, qu_pi]
          · simp (disch := first | omega | decide) only [qu_pk, qu_pj, qu_ps, qu_pi]; exact q2 j hj
      · have e1 : qm_cmp .ne (s 16 (6 * i + k) 0) 0 = true := by rw [ew, qv_ne]; exact decide_eq_true hw
        have e2 : qm_cmp .ne (s' 34 0 (6 * i + k)) 0 = true := by rw [qv_ne]; exact decide_eq_true hw
        have e5 : qp_up s' 36 0 (6 * i + k) (s' 36 0 (6 * i + k)) = s' := by
          funext a b c
          unfold qp_up
          by_cases g : a = 36 ∧ b = 0 ∧ c = 6 * i + k
          · rw [if_pos g]; obtain ⟨rfl, rfl, rfl⟩ := g; rfl
          · rw [if_neg g]
        refine ⟨s, s', fun n => ?_, fun n => ?_, ⟨hB, hW, hS, hP, hM, hG, hD, hE, hK, hJ, hZ⟩, q2, q3, q4⟩
        · simp (disch := first | omega | assumption | decide) only [qf90_21, qv_g4, qv_g6, qv_g8, qv_g16, qv_g32, qv_g48, qv_e4, qv_e6, qv_e8, qv_e16, qv_e32, qv_e48, qv_inT, qv_tN, qv_s1, cond_false, cond_true, if_true, e1]
        · simp (disch := first | omega | assumption | decide) only [qf157_46, qv_g4, qv_g6, qv_g8, qv_g16, qv_g32, qv_g48, qv_e4, qv_e6, qv_e8, qv_e16, qv_e32, qv_e48, qv_inT, qv_tN, qv_s1, cond_false, cond_true, if_true, qu_ltT, qu_ltF, qu_gtT, qu_gtF, qu_geT, qu_geF, qu_leT, qu_leF, qu_eqT, qu_eqF, qu_neT, qu_neF, qu_inT, qu_24T, qu_24F, qu_116T, qu_116F, qu_13T, qu_13F, qu_25T, qu_25F, qu_26T, qu_26F, qu_117a, qu_117b, qu_117c, qu_117d, qu_10F, qu_00T, qu_n10, qu_n00, Option.bind_some, cond_true, cond_false, if_true, qv_tN, qv_c6, qv_c4, qv_c8, qv_c32, qv_d4, qv_d16, qv_f4, qv_a1, qv_a2, qv_a3, qv_add, qv_inT, e2, e5])
    6 0 4096 4096 x y (by decide) (by decide) (by decide) ⟨h, hv, qfr_r, qfr_r⟩
  refine ⟨x', y', m', ?_, ?_, s3, s4, s5, s6⟩
  · show qf90_21 4096 i (Int32.ofNat 0) x = _
    rw [s1]
    unfold qf90_21
    rw [qv_e6, cond_true]
  · show qf157_46 4096 (Int32.ofNat i) a2 (Int32.ofNat 0) y = _
    exact s2
/-- one task is released, if it is its time -/
theorem qi_rel1 {x y : qp_S} {T B c n i : Nat} (h : qb x y T B c n (fun _ => True)) (hi : i < 8) (hTP : T < B + qN (y 41 0 c)) (ht : y 50 0 i = 1 → qb_T y T B c i 1) : ∃ x' y', (∀ m, qf88_2 (m + 1) (Int32.ofNat i) x = qf88_2 m (Int32.ofNat (i + 1)) x') ∧ qf157 (Int32.ofNat i) y = some (0, y') ∧ qb x' y' T B c n (fun _ => True) ∧ (y' 50 0 i = 1 → qa_T y' T B c i) ∧ (∀ t, t ≠ i → y' 50 0 t = y 50 0 t ∧ y' 52 0 t = y 52 0 t) ∧ qfr [14, 16] x x' ∧ qfr [30, 36, 50, 51, 52, 53, 54, 55, 57, 58, 59] y y' := by
  have l0 : (0:Int32).toInt = 0 := rfl; have l1 : (1:Int32).toInt = 1 := rfl; have lm : (-1:Int32).toInt = -1 := rfl; have l3 : (3:Int32).toInt = 3 := rfl; have l4 : (4:Int32).toInt = 4 := rfl; have l5 : (5:Int32).toInt = 5 := rfl; have l6 : (6:Int32).toInt = 6 := rfl; have l7 : (7:Int32).toInt = 7 := rfl; have l8 : (8:Int32).toInt = 8 := rfl; have l15 : (15:Int32).toInt = 15 := rfl; have l16 : (16:Int32).toInt = 16 := rfl; have l32 : (32:Int32).toInt = 32 := rfl
  have ti := qv_tI i (by omega)
  obtain ⟨hP60, eP, eP2⟩ := qb_P h
  have h' := h
  obtain ⟨hB, hW, hS, hP, hM, hG, hD, hE, hK, hJ, hZ⟩ := h
  obtain ⟨z1, z2, z3, z4, z5, z6⟩ := hZ
  obtain ⟨k1, k2, k3, k4, k5, k6, k7, k8, k9, k10⟩ := hK
  have tT := qv_tI T (by omega)
  have tc := qv_tI c (by omega)
  have tP := qv_tI (qN (y 41 0 c)) (by omega)
  have eTB : Int32.ofNat T - Int32.ofNat B = Int32.ofNat (T - B) := qv_sub T B z2
  obtain ⟨f, hf, ef⟩ := hM.2.2.2 (8 * c + i) (by omega)
  have tf := qv_tI f (by omega)
  have eF : qN (y 42 0 (8 * c + i)) = f := by rw [ef]; exact qv_tN f (by omega)
  have ef2 : x 23 c i = Int32.ofNat f := (hM.2.1 c i z3 hi).trans ef
  have hskip : (y 50 0 i = 1 → qa_T y T B c i) ∧ (∀ t, t ≠ i → y 50 0 t = y 50 0 t ∧ y 52 0 t = y 52 0 t) := by
    refine ⟨fun g => ?_, fun t _ => ⟨rfl, rfl⟩⟩
    obtain ⟨q, w0, w1, w2, w3⟩ := ht g
    exact ⟨q, w0, by omega, by omega, w3⟩
  by_cases hf0 : f = 0
  · subst hf0
    refine ⟨x, y, fun m => ?_, ?_, h', hskip.1, hskip.2, qfr_r, qfr_r⟩
    · have e53 : qf53 c (Int32.ofNat i) x = some 0 := by
        simp (disch := first | omega | assumption | decide) only [qf53, eP2, ef2, qu_ltT, qu_ltF, qu_gtT, qu_gtF, qu_geT, qu_geF, qu_leT, qu_leF, qu_eqT, qu_eqF, qu_neT, qu_neF, qu_inT, qu_24T, qu_24F, qu_116T, qu_116F, qu_13T, qu_13F, qu_25T, qu_25F, qu_26T, qu_26F, qu_117a, qu_117b, qu_117c, qu_117d, qu_10F, qu_00T, qu_n10, qu_n00, Option.bind_some, cond_true, cond_false, if_true, qv_tN, qv_c6, qv_c4, qv_c8, qv_c32, qv_d4, qv_d16, qv_f4, qv_a1, qv_a2, qv_a3, qv_add, qv_inT]
      have e69 : qf69 c (Int32.ofNat i) x = some 0 := by
        simp (disch := first | omega | assumption | decide) only [qf69, e53, qu_ltT, qu_ltF, qu_gtT, qu_gtF, qu_geT, qu_geF, qu_leT, qu_leF, qu_eqT, qu_eqF, qu_neT, qu_neF, qu_inT, qu_24T, qu_24F, qu_116T, qu_116F, qu_13T, qu_13F, qu_25T, qu_25F, qu_26T, qu_26F, qu_117a, qu_117b, qu_117c, qu_117d, qu_10F, qu_00T, qu_n10, qu_n00, Option.bind_some, cond_true, cond_false, if_true, qv_tN]
      have e89 : ∀ a, qf89 c (Int32.ofNat i) a x = some 0 := by
        intro a
        simp (disch := first | omega | assumption | decide) only [qf89, e69, qu_ltT, qu_ltF, qu_gtT, qu_gtF, qu_geT, qu_geF, qu_leT, qu_leF, qu_eqT, qu_eqF, qu_neT, qu_neF, qu_inT, qu_24T, qu_24F, qu_116T, qu_116F, qu_13T, qu_13F, qu_25T, qu_25F, qu_26T, qu_26F, qu_117a, qu_117b, qu_117c, qu_117d, qu_10F, qu_00T, qu_n10, qu_n00, Option.bind_some, cond_true, cond_false, if_true, qv_tN]
      simp (disch := first | omega | assumption | decide) only [qf88_2, qv_g4, qv_g6, qv_g8, qv_g16, qv_g32, qv_g48, qv_e4, qv_e6, qv_e8, qv_e16, qv_e32, qv_e48, qv_inT, qv_tN, qv_s1, cond_false, cond_true, if_true, k5, qu_ltT, qu_ltF, qu_gtT, qu_gtF, qu_geT, qu_geF, qu_leT, qu_leF, qu_eqT, qu_eqF, qu_neT, qu_neF, qu_inT, qu_24T, qu_24F, qu_116T, qu_116F, qu_13T, qu_13F, qu_25T, qu_25F, qu_26T, qu_26F, qu_117a, qu_117b, qu_117c, qu_117d, qu_10F, qu_00T, qu_n10, qu_n00, Option.bind_some, cond_true, cond_false, if_true, qv_tN, qv_c6, qv_c4, qv_c8, qv_c32, qv_d4, qv_d16, qv_f4, qv_a1, qv_a2, qv_a3, qv_add, qv_inT, e89]
    · simp (disch := first | omega | assumption | decide) only [qf157, k6, qu_ltT, qu_ltF, qu_gtT, qu_gtF, qu_geT, qu_geF, qu_leT, qu_leF, qu_eqT, qu_eqF, qu_neT, qu_neF, qu_inT, qu_24T, qu_24F, qu_116T, qu_116F, qu_13T, qu_13F, qu_25T, qu_25F, qu_26T, qu_26F, qu_117a, qu_117b, qu_117c, qu_117d, qu_10F, qu_00T, qu_n10, qu_n00, Option.bind_some, cond_true, cond_false, if_true, qv_tN, qv_c6, qv_c4, qv_c8, qv_c32, qv_d4, qv_d16, qv_f4, qv_a1, qv_a2, qv_a3, qv_add, qv_inT, ef]
  · have hdv : f ∣ qN (y 41 0 c) := by have := z4.1 c i z3 hi z5 (by omega); rw [eF] at this; exact this
    obtain ⟨sp, hsp⟩ := hdv
    have hsp2 : qN (y 41 0 c) / f = sp := by rw [hsp]; exact Nat.mul_div_cancel_left sp (by omega)
    have hsp0 : 0 < sp := by
      rcases Nat.eq_zero_or_pos sp with g | g
      · subst g; omega
      · exact g
    have hspP : sp ≤ qN (y 41 0 c) := by rw [← hsp2]; exact Nat.div_le_self _ _
    have tsp := qv_tI sp (by omega)
    have edv : Int32.ofNat (qN (y 41 0 c)) / Int32.ofNat f = Int32.ofNat sp := by rw [qv_div _ _ (by omega) (by omega), hsp2]
    have e53 : qf53 c (Int32.ofNat i) x = some 1 := by
      simp (disch := first | omega | assumption | decide) only [qf53, eP2, ef2, qu_ltT, qu_ltF, qu_gtT, qu_gtF, qu_geT, qu_geF, qu_leT, qu_leF, qu_eqT, qu_eqF, qu_neT, qu_neF, qu_inT, qu_24T, qu_24F, qu_116T, qu_116F, qu_13T, qu_13F, qu_25T, qu_25F, qu_26T, qu_26F, qu_117a, qu_117b, qu_117c, qu_117d, qu_10F, qu_00T, qu_n10, qu_n00, Option.bind_some, cond_true, cond_false, if_true, qv_tN, qv_c6, qv_c4, qv_c8, qv_c32, qv_d4, qv_d16, qv_f4, qv_a1, qv_a2, qv_a3, qv_add, qv_inT]
    have hfne : ¬ Int32.ofNat f = 0 := fun g => hf0 (qv_mi f 0 g (by omega) (by omega))
    have hsne : ¬ Int32.ofNat sp = 0 := fun g => by have := qv_mi sp 0 g (by omega) (by omega); omega
    have e69 : qf69 c (Int32.ofNat i) x = some (Int32.ofNat sp) := by
      simp (disch := first | omega | assumption | decide) only [qf69, e53, eP2, ef2, qu_ltT, qu_ltF, qu_gtT, qu_gtF, qu_geT, qu_geF, qu_leT, qu_leF, qu_eqT, qu_eqF, qu_neT, qu_neF, qu_inT, qu_24T, qu_24F, qu_116T, qu_116F, qu_13T, qu_13F, qu_25T, qu_25F, qu_26T, qu_26F, qu_117a, qu_117b, qu_117c, qu_117d, qu_10F, qu_00T, qu_n10, qu_n00, Option.bind_some, cond_true, cond_false, if_true, qv_tN, qv_c6, qv_c4, qv_c8, qv_c32, qv_d4, qv_d16, qv_f4, qv_a1, qv_a2, qv_a3, qv_add, qv_inT, hfne, if_false, edv]
    have erem : Int32.ofNat (T - B) - Int32.ofNat (T - B) / Int32.ofNat sp * Int32.ofNat sp = Int32.ofNat ((T - B) % sp) := qv_rem _ _ (by omega) (by omega)
    have tm := qv_tI ((T - B) % sp) (by have := Nat.mod_le (T - B) sp; omega)
    by_cases hm : (T - B) % sp = 0
    · -- it is
      have h50 : y 50 0 i = 0 := by
        rcases hJ i hi trivial with hj | hj
        · exact hj.1
        · obtain ⟨q, w0, w1, w2, w3⟩ := ht hj.1
          rw [eF, hsp2] at w1 w2
          have hd := Nat.div_add_mod (T - B) sp
          rw [hm] at hd
          have e1 : q * sp < sp * ((T - B) / sp) := by omega
          have e2 : sp * ((T - B) / sp) < (q + 1) * sp := by omega
          rw [Nat.mul_comm] at e1
          rw [Nat.mul_comm (q + 1)] at e2
          have := Nat.lt_of_mul_lt_mul_left e1
          have := Nat.lt_of_mul_lt_mul_left e2
          omega
      have hj0 : qa_J0 x y i := by
        rcases hJ i hi trivial with hj | hj
        · exact hj
        · rw [hj.1] at h50; exact absurd h50 (by decide)
      obtain ⟨b, hb1, hb2, eb⟩ := hB.2 i hi
      have tb := qv_tI b (by omega)
      have eb2 : x 14 i 0 = Int32.ofNat b := (hB.1 i).trans eb
      have hl := qu_J0l hj0
      -- the class
      obtain ⟨x1, hx1⟩ : ∃ x1, x1 = qp_up (qp_up (qp_up x 14 i 8 (Int32.ofNat T)) 14 i 3 (Int32.ofNat (T + sp))) 14 i 9 (Int32.ofNat b) := ⟨_, rfl⟩
      have hqb1 : qb x1 y T B c n (fun t => t ≠ i) := by
        subst hx1
        refine ⟨⟨fun t => ?_, hB.2⟩, ⟨fun t => ?_, hW.2⟩, hS, hP, hM, hG, hD, hE, ⟨k1, k2, k3, k4, k5, k6, k7, k8, k9, k10⟩, fun t ht hti => ?_, z1, z2, z3, z4, z5, z6⟩
        · simp (disch := first | omega | decide) only [qu_pk, qu_pj, qu_ps, qu_pi]; exact hB.1 t
        · simp (disch := first | omega | decide) only [qu_pk, qu_pj, qu_ps, qu_pi]; exact hW.1 t
        · refine qa_Jx (x := x) (fun f _ => ?_) rfl (fun _ => rfl) (fun _ => rfl) (fun _ _ => rfl) (hJ t ht trivial)
          simp (disch := first | omega | decide) only [qu_pk, qu_pj, qu_ps, qu_pi]
      obtain ⟨x2, y2, m2, s1, s2, s3, s4, s5, s6⟩ := qi_lat hqb1 hi (by subst hx1; exact hl.2) (Int32.ofNat f)
      have hsnd : qk_S y2 i := by
        have e32 := s6 32 (by decide); have e33 := s6 33 (by decide); have e34 := s6 34 (by decide)
        have := z4.2.2 i hi ⟨c, z3, z5, by omega⟩
        obtain ⟨D, w1, w2⟩ := this
        refine ⟨D, ?_, ?_⟩
        · unfold qj_v; rw [e32, e33]; exact w1
        · unfold qk_Wd qj_v; rw [e32, e34]; exact w2
      obtain ⟨D, hDD, -⟩ := hsnd
      obtain ⟨sz, hsz, esz⟩ := s3.2.1.2.2 i hi
      have eS : qN (y2 33 0 i) = sz := by rw [esz]; exact qv_tN sz (by omega)
      rw [eS] at hDD
      obtain ⟨y3, hy3⟩ : ∃ y3, y3 = qp_up (qp_up (qp_up y2 50 0 i 1) 51 0 i (Int32.ofNat T)) 52 0 i (Int32.ofNat (T + sp)) := ⟨_, rfl⟩
      obtain ⟨⟨r1, y4⟩, e1, k, e2, e3, e3', e3'', e4, e5⟩ := qya148 (y := y3) (N := b) hi (by omega) (fun g => ⟨sz, D, hsz, by subst hy3; exact hDD⟩)
      dsimp only at e2 e4 e5
      subst e2
      have hk0 : 0 < k := by
        rcases Nat.eq_zero_or_pos k with g | g
        · subst g
          rcases e3'' with g2 | g2
          · omega
          · cases g2
        · exact g
      obtain ⟨o, ho⟩ : ∃ o, o = !(qj_at y3 i k).2.2.1 := ⟨_, rfl⟩
      refine ⟨x2, qp_up (qp_up (qp_up y4 54 0 i (Int32.ofNat k)) 55 0 i (qv_b o)) 53 0 i 0, fun m => ?_, ?_, ?_, fun _ => ?_, fun t hti => ?_, ?_, ?_⟩
      · have e89 : qf89 c (Int32.ofNat i) (Int32.ofNat (T - B)) x = some 1 := by
          simp (disch := first | omega | assumption | decide) only [qf89, e69, qu_ltT, qu_ltF, qu_gtT, qu_gtF, qu_geT, qu_geF, qu_leT, qu_leF, qu_eqT, qu_eqF, qu_neT, qu_neF, qu_inT, qu_24T, qu_24F, qu_116T, qu_116F, qu_13T, qu_13F, qu_25T, qu_25F, qu_26T, qu_26F, qu_117a, qu_117b, qu_117c, qu_117d, qu_10F, qu_00T, qu_n10, qu_n00, Option.bind_some, cond_true, cond_false, if_true, qv_tN, qv_c6, qv_c4, qv_c8, qv_c32, qv_d4, qv_d16, qv_f4, qv_a1, qv_a2, qv_a3, qv_add, qv_inT, hsne, if_false, erem]
        have e90 : qf90 i (Int32.ofNat T) (Int32.ofNat (T + sp)) x = some (0, x2) := by
          unfold qf90
          have g : (qp_up (qp_up x 14 i 8 (Int32.ofNat T)) 14 i 3 (Int32.ofNat (T + sp))) 14 i 0 = Int32.ofNat b := by simp (disch := first | omega | decide) only [qu_pk, qu_pj, qu_ps, qu_pi]; exact eb2
          rw [g, ← hx1]; exact s1
        simp (disch := first | omega | assumption | decide) only [qf88_2, qv_g4, qv_g6, qv_g8, qv_g16, qv_g32, qv_g48, qv_e4, qv_e6, qv_e8, qv_e16, qv_e32, qv_e48, qv_inT, qv_tN, qv_s1, cond_false, cond_true, if_true, k5, k3, k7, eTB, qu_ltT, qu_ltF, qu_gtT, qu_gtF, qu_geT, qu_geF, qu_leT, qu_leF, qu_eqT, qu_eqF, qu_neT, qu_neF, qu_inT, qu_24T, qu_24F, qu_116T, qu_116F, qu_13T, qu_13F, qu_25T, qu_25F, qu_26T, qu_26F, qu_117a, qu_117b, qu_117c, qu_117d, qu_10F, qu_00T, qu_n10, qu_n00, Option.bind_some, cond_true, cond_false, if_true, qv_tN, qv_c6, qv_c4, qv_c8, qv_c32, qv_d4, qv_d16, qv_f4, qv_a1, qv_a2, qv_a3, qv_add, qv_inT, e89, e69, e90]
      · have g41 : y2 41 = y 41 := s6 41 (by decide)
        have g30 : y2 30 = y 30 := s6 30 (by decide)
        have g31 : y2 31 = y 31 := s6 31 (by decide)
        unfold qf157
        rw [k6, k4, k8, qv_c8, eTB, qv_tN c (by omega), qv_tN (8 * c + i) (by omega), ef, eP, edv, erem, if_neg hfne, if_neg hsne]
        simp (disch := first | omega | assumption | decide) only [qu_ltT, qu_ltF, qu_gtT, qu_gtF, qu_geT, qu_geF, qu_leT, qu_leF, qu_eqT, qu_eqF, qu_neT, qu_neF, qu_inT, qu_24T, qu_24F, qu_116T, qu_116F, qu_13T, qu_13F, qu_25T, qu_25F, qu_26T, qu_26F, qu_117a, qu_117b, qu_117c, qu_117d, qu_10F, qu_00T, qu_n10, qu_n00, Option.bind_some, cond_true, cond_false, if_true, qv_tN, qv_c6, qv_c4, qv_c8, qv_c32, qv_d4, qv_d16, qv_f4, qv_a1, qv_a2, qv_a3, qv_add, qv_inT]
        rw [s2]
        unfold qf157_46
        rw [qv_e6, cond_true]
        have f1 : ∀ v, (qp_up y2 50 0 i v) 30 0 21 = Int32.ofNat T := fun v => by rw [qu_pk (by decide), g30]; exact k4
        have f2 : ∀ v w, (qp_up (qp_up y2 50 0 i v) 51 0 i w) 30 0 22 = Int32.ofNat c := fun v w => by rw [qu_pk (by decide), qu_pk (by decide), g30]; exact k6
        have f3 : ∀ v w, (qp_up (qp_up y2 50 0 i v) 51 0 i w) 30 0 21 = Int32.ofNat T := fun v w => by rw [qu_pk (by decide), qu_pk (by decide), g30]; exact k4
        have f4 : ∀ v w, (qp_up (qp_up y2 50 0 i v) 51 0 i w) 41 0 c = Int32.ofNat (qN (y 41 0 c)) := fun v w => by rw [qu_pk (by decide), qu_pk (by decide), g41]; exact eP
        have f5 : y3 31 0 i = Int32.ofNat b := by subst hy3; rw [qu_pk (by decide), qu_pk (by decide), qu_pk (by decide), g31]; exact eb
        rw [qv_tN i (by omega), f1, f2, f3, qv_tN c (by omega), f4, edv, qv_add, ← hy3, f5, e1]
        have f6 : (qp_up y4 54 0 i (Int32.ofNat k)) 30 0 35 = qv_b (qj_at y3 i k).2.2.1 := e4.2.2.1
        rw [Option.bind_some]
        dsimp only
        rw [f6]
        simp (disch := first | omega | assumption | decide) only [qu_ltT, qu_ltF, qu_gtT, qu_gtF, qu_geT, qu_geF, qu_leT, qu_leF, qu_eqT, qu_eqF, qu_neT, qu_neF, qu_inT, qu_24T, qu_24F, qu_116T, qu_116F, qu_13T, qu_13F, qu_25T, qu_25F, qu_26T, qu_26F, qu_117a, qu_117b, qu_117c, qu_117d, qu_10F, qu_00T, qu_n10, qu_n00, Option.bind_some, cond_true, cond_false, if_true, qv_tN, qv_c6, qv_c4, qv_c8, qv_c32, qv_d4, qv_d16, qv_f4, qv_a1, qv_a2, qv_a3, qv_add, qv_inT, hfne, if_false, qv_ne0]
        rw [ho]
        cases (qj_at y3 i k).2.2.1 <;> rfl
      · -- the relation
        have hqb3 : qb x2 y3 T B c n (fun t => t ≠ i) := by
          subst hy3
          obtain ⟨hB, hW, hS, hP, hM, hG, hD, hE, hK, hJ, hZ⟩ := s3
          refine ⟨hB, hW, hS, hP, hM, hG, hD, hE, hK, fun t ht hti => ?_, hZ⟩
          exact qa_Jy (y := y2) (by simp (disch := first | omega | decide) only [qu_pk, qu_pj, qu_ps, qu_pi]) rfl rfl rfl rfl (by simp (disch := first | omega | decide) only [qu_pk, qu_pj, qu_ps, qu_pi]) (by simp (disch := first | omega | decide) only [qu_pk, qu_pj, qu_ps, qu_pi]) rfl rfl (hJ t ht hti)
        have hqb4 := qb_qx e5 hqb3
        obtain ⟨hB', hW', hS', hP', hM', hG', hD', hE', hK', hJ', hZ'⟩ := hqb4
        refine ⟨hB', hW', hS', hP', hM', hG', hD', hE', hK', fun t ht _ => ?_, hZ'⟩
        by_cases e : t = i
        · subst e
          right
          have d4 : ∀ k c, k ≠ 30 → k ≠ 57 → k ≠ 58 → k ≠ 59 → y4 k 0 c = y3 k 0 c := fun k c g1 g2 g3 g4 => e5 k 0 c (by omega) g2 g3 g4
          have hat : ∀ k, qj_at (qp_up (qp_up (qp_up y4 54 0 t (Int32.ofNat k)) 55 0 t (qv_b o)) 53 0 t 0) t = qj_at y3 t := by
            intro k
            funext l
            show qj_run (qj_v y4 t) l (qj_0 y4 t) = qj_run (qj_v y3 t) l (qj_0 y3 t)
            have g1 : qj_v y4 t = qj_v y3 t := by
              unfold qj_v; funext p; rw [d4 32 _ (by decide) (by decide) (by decide) (by decide)]
            have g2 : qj_0 y4 t = qj_0 y3 t := qj_0c (fun j hj => d4 37 _ (by decide) (by decide) (by decide) (by decide)) (fun j hj => d4 36 _ (by decide) (by decide) (by decide) (by decide))
            rw [g1, g2]
          have g14 : ∀ f, x2 14 t f = x1 14 t f := fun f => by rw [s5 14 (by decide)]
          refine ⟨?_, 0, k, b, ?_, by omega, ?_, ?_, by omega, e3, fun j hj => ?_, ?_, ?_, ?_, ?_, ?_, ?_, ?_⟩
          · rw [qu_pk (by decide), qu_pk (by decide), qu_pk (by decide), d4 50 _ (by decide) (by decide) (by decide) (by decide), hy3, qu_pk (by decide), qu_pk (by decide), qu_ps]
          · rw [qu_pk (by decide), qu_pk (by decide), qu_pk (by decide), d4 31 _ (by decide) (by decide) (by decide) (by decide), hy3, qu_pk (by decide), qu_pk (by decide), qu_pk (by decide), s6 31 (by decide)]; exact eb
          · exact qu_ps
          · rw [qu_pk (by decide), qu_pk (by decide)]; exact qu_ps
          · rw [hat]; exact e3' j hj
          · rw [hat]
            rcases e3'' with g | g
            · exact Or.inr g
            · exact Or.inl g
          · rw [hat, qu_pk (by decide), qu_ps, ho]
          · rw [if_pos hk0, g14, hx1]; exact qu_ps
          · rw [if_pos hk0, g14, hx1, qu_pj (by decide), qu_pj (by decide), qu_pj (by decide)]; exact hj0.2.2.2.2.1
          · rw [g14, hx1, qu_pj (by decide), qu_pj (by decide), qu_ps, qu_pk (by decide), qu_pk (by decide), qu_pk (by decide), d4 51 _ (by decide) (by decide) (by decide) (by decide), hy3, qu_pk (by decide), qu_ps]
          · rw [g14, hx1, qu_pj (by decide), qu_ps, qu_pk (by decide), qu_pk (by decide), qu_pk (by decide), d4 52 _ (by decide) (by decide) (by decide) (by decide), hy3, qu_ps]
          · rw [hat]
            obtain ⟨j1, j2, j3, j4, j5, j6, j7, j8, j9, j10⟩ := hj0
            refine ⟨?_, ?_, fun j hj => absurd hj (Nat.not_lt_zero _), fun j hj => ?_, fun j hj => ?_⟩
            · rw [s5 19 (by decide), hx1]; exact j6
            · rw [g14, hx1, qu_pj (by decide), qu_pj (by decide), qu_pj (by decide)]; exact j7
            · show _ = if j < 4 then y3 37 0 (4 * t + j) else 0
              rw [if_pos hj, s5 18 (by decide), hx1]
              show x 18 t j = y3 37 0 (4 * t + j)
              rw [hy3, qu_pk (by decide), qu_pk (by decide), qu_pk (by decide), s6 37 (by decide)]
              exact hl.1 j hj
            · show _ = if j < 6 then y3 36 0 (6 * t + j) else 0
              rw [if_pos hj, hy3, qu_pk (by decide), qu_pk (by decide), qu_pk (by decide)]
              exact s4 j hj
        · exact qa_Jy (y := y4) rfl rfl (by simp (disch := first | omega | decide) only [qu_pk, qu_pj, qu_ps, qu_pi]) (by simp (disch := first | omega | decide) only [qu_pk, qu_pj, qu_ps, qu_pi]) (by simp (disch := first | omega | decide) only [qu_pk, qu_pj, qu_ps, qu_pi]) rfl rfl rfl rfl (hJ' t ht e)
      · refine ⟨(T - B) / sp, ?_⟩
        have g41 : (qp_up (qp_up (qp_up y4 54 0 i (Int32.ofNat k)) 55 0 i (qv_b o)) 53 0 i 0) 41 0 c = y 41 0 c := by
          rw [qu_pk (by decide), qu_pk (by decide), qu_pk (by decide), e5 41 0 c (by omega) (by omega) (by omega) (by omega), hy3, qu_pk (by decide), qu_pk (by decide), qu_pk (by decide), s6 41 (by decide)]
        have g42 : (qp_up (qp_up (qp_up y4 54 0 i (Int32.ofNat k)) 55 0 i (qv_b o)) 53 0 i 0) 42 0 (8 * c + i) = y 42 0 (8 * c + i) := by
          rw [qu_pk (by decide), qu_pk (by decide), qu_pk (by decide), e5 42 0 _ (by omega) (by omega) (by omega) (by omega), hy3, qu_pk (by decide), qu_pk (by decide), qu_pk (by decide), s6 42 (by decide)]
        rw [g41, g42, eF, hsp2]
        have hd := Nat.div_add_mod (T - B) sp
        rw [hm, Nat.mul_comm] at hd
        have hlt : (T - B) / sp < f := by
          have : (T - B) / sp * sp < f * sp := by omega
          exact Nat.lt_of_mul_lt_mul_right this
        have hmul : ((T - B) / sp + 1) * sp = (T - B) / sp * sp + sp := by rw [Nat.add_mul, Nat.one_mul]
        refine ⟨hlt, by omega, by omega, ?_⟩
        rw [qu_pk (by decide), qu_pk (by decide), qu_pk (by decide), e5 52 0 i (by omega) (by omega) (by omega) (by omega), hy3, qu_ps]
        congr 1
        omega
      · constructor
        · rw [qu_pk (by decide), qu_pk (by decide), qu_pk (by decide), e5 50 0 t (by omega) (by omega) (by omega) (by omega), hy3, qu_pk (by decide), qu_pk (by decide), qu_pj hti, s6 50 (by decide)]
        · rw [qu_pk (by decide), qu_pk (by decide), qu_pk (by decide), e5 52 0 t (by omega) (by omega) (by omega) (by omega), hy3, qu_pj hti, qu_pk (by decide), qu_pk (by decide), s6 52 (by decide)]
      · refine qfr_t ?_ (qfr_m (L := [16]) (by intro k hk; simp only [List.mem_cons, List.not_mem_nil, or_false] at hk ⊢; omega) s5)
        subst hx1
        exact qfr_up (by decide) (qfr_up (by decide) (qfr_up (by decide) qfr_r))
      · refine qfr_up (by decide) (qfr_up (by decide) (qfr_up (by decide) (qfr_t ?_ (qfr_m (L := [30, 57, 58, 59]) (by intro k hk; simp only [List.mem_cons, List.not_mem_nil, or_false] at hk ⊢; omega) (qfr_x e5)))))
        subst hy3
        exact qfr_up (by decide) (qfr_up (by decide) (qfr_up (by decide) (qfr_m (L := [36]) (by intro k hk; simp only [List.mem_cons, List.not_mem_nil, or_false] at hk ⊢; omega) s6)))
    · refine ⟨x, y, fun m => ?_, ?_, h', hskip.1, hskip.2, qfr_r, qfr_r⟩
      · have e89 : qf89 c (Int32.ofNat i) (Int32.ofNat (T - B)) x = some 0 := by
          simp (disch := first | omega | assumption | decide) only [qf89, e69, qu_ltT, qu_ltF, qu_gtT, qu_gtF, qu_geT, qu_geF, qu_leT, qu_leF, qu_eqT, qu_eqF, qu_neT, qu_neF, qu_inT, qu_24T, qu_24F, qu_116T, qu_116F, qu_13T, qu_13F, qu_25T, qu_25F, qu_26T, qu_26F, qu_117a, qu_117b, qu_117c, qu_117d, qu_10F, qu_00T, qu_n10, qu_n00, Option.bind_some, cond_true, cond_false, if_true, qv_tN, qv_c6, qv_c4, qv_c8, qv_c32, qv_d4, qv_d16, qv_f4, qv_a1, qv_a2, qv_a3, qv_add, qv_inT, hsne, if_false, erem]
        simp (disch := first | omega | assumption | decide) only [qf88_2, qv_g4, qv_g6, qv_g8, qv_g16, qv_g32, qv_g48, qv_e4, qv_e6, qv_e8, qv_e16, qv_e32, qv_e48, qv_inT, qv_tN, qv_s1, cond_false, cond_true, if_true, k5, k3, k7, eTB, qu_ltT, qu_ltF, qu_gtT, qu_gtF, qu_geT, qu_geF, qu_leT, qu_leF, qu_eqT, qu_eqF, qu_neT, qu_neF, qu_inT, qu_24T, qu_24F, qu_116T, qu_116F, qu_13T, qu_13F, qu_25T, qu_25F, qu_26T, qu_26F, qu_117a, qu_117b, qu_117c, qu_117d, qu_10F, qu_00T, qu_n10, qu_n00, Option.bind_some, cond_true, cond_false, if_true, qv_tN, qv_c6, qv_c4, qv_c8, qv_c32, qv_d4, qv_d16, qv_f4, qv_a1, qv_a2, qv_a3, qv_add, qv_inT, e89]
      · unfold qf157
        rw [k6, k4, k8, qv_c8, eTB, qv_tN c (by omega), qv_tN (8 * c + i) (by omega), ef, eP, edv, erem, if_neg hfne, if_neg hsne]
        simp (disch := first | omega | assumption | decide) only [qu_ltT, qu_ltF, qu_gtT, qu_gtF, qu_geT, qu_geF, qu_leT, qu_leF, qu_eqT, qu_eqF, qu_neT, qu_neF, qu_inT, qu_24T, qu_24F, qu_116T, qu_116F, qu_13T, qu_13F, qu_25T, qu_25F, qu_26T, qu_26F, qu_117a, qu_117b, qu_117c, qu_117d, qu_10F, qu_00T, qu_n10, qu_n00, Option.bind_some, cond_true, cond_false, if_true, qv_tN, qv_c6, qv_c4, qv_c8, qv_c32, qv_d4, qv_d16, qv_f4, qv_a1, qv_a2, qv_a3, qv_add, qv_inT]
