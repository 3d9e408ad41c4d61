/-! a job is run again from its beginning -/
theorem qy_st {v : Int32} {h p : Nat} {d : Bool} {st ow sl : Nat → Int32} (hw : qj_w v ≤ 16) (ht : qj_tk (qj_w v) ≤ h) : (qj_st v (h, p, d, st, ow, sl)).1 = qk_h (qj_w v) h ∧ (qj_st v (h, p, d, st, ow, sl)).2.2.1 = (if qj_w v = 0 then true else d) ∧ (qj_w v ≠ 0 → qj_w v ≠ 10 → qj_w v ≠ 11 → (qj_st v (h, p, d, st, ow, sl)).2.1 = p + 1) ∧ (qj_w v = 10 → (qj_st v (h, p, d, st, ow, sl)).2.1 = qN (qj_n v)) ∧ (qj_w v = 11 → (qj_st v (h, p, d, st, ow, sl)).2.1 = p + 1 ∨ (qj_st v (h, p, d, st, ow, sl)).2.1 = qN (qj_n v)) := by
  have hwc : qj_w v = 0 ∨ qj_w v = 1 ∨ qj_w v = 2 ∨ qj_w v = 3 ∨ qj_w v = 4 ∨ qj_w v = 5 ∨ qj_w v = 6 ∨ qj_w v = 7 ∨ qj_w v = 8 ∨ qj_w v = 9 ∨ qj_w v = 10 ∨ qj_w v = 11 ∨ qj_w v = 12 ∨ qj_w v = 13 ∨ qj_w v = 14 ∨ qj_w v = 15 ∨ qj_w v = 16 := by omega
  rcases hwc with e | e | e | e | e | e | e | e | e | e | e | e | e | e | e | e | e <;> rw [e] at ht <;> simp [qj_tk] at ht <;> simp [qj_st, e, qk_h, qj_tk, qj_lv]
  all_goals first | omega | (by_cases hz : st (h - 1) = 0 <;> simp [hz])
/-- the word that comes next is good -/
def qy_I (size : Nat) (D : Nat → Int32) (J : qj) : Prop := J.1 ≤ 8 ∧ (J.2.2.1 = true ∨ (J.2.1 < size ∧ D J.2.1 = Int32.ofNat J.1))
theorem qy_ok {v : Nat → Int32} {size : Nat} {D : Nat → Int32} (hD : qk_V v size D) (hs : size ≤ 32) {p h : Nat} (hp : p < size) (hh : h ≤ 8) (e : D p = Int32.ofNat h) : qk_ok (v p) size D p h := by
  rcases hD.2.2 p (by omega) with h1 | ⟨-, h', hh', e', hk⟩
  · rw [e] at h1; exact absurd h1 (qv_mm h (by omega))
  · have := qv_mi h' h (e'.symm.trans e) (by omega) (by omega)
    subst this
    exact hk
theorem qv_Nt (a : Int32) : qN a = a.toInt.toNat := (Int32.toNat_toInt a).symm
theorem qy_step {v : Nat → Int32} {size : Nat} {D : Nat → Int32} (hD : qk_V v size D) (hs : size ≤ 32) {J : qj} (hI : qy_I size D J) (hd : J.2.2.1 = false) : qy_I size D (qj_st (v J.2.1) J) := by
  obtain ⟨h, p, d, st, ow, sl⟩ := J
  obtain ⟨hh, hI⟩ := hI
  rcases hI with hI | ⟨hp, e⟩
  · rw [hd] at hI; cases hI
  · obtain ⟨k1, k2, k3, k4, k5, k6⟩ := qy_ok hD hs hp hh e
    obtain ⟨s1, s2, s3, s4, s5⟩ := qy_st (p := p) (d := d) (st := st) (ow := ow) (sl := sl) k1 k2
    have hd : d = false := hd
    refine ⟨by rw [s1]; exact k4, ?_⟩
    rw [s1, s2]
    show (if qj_w (v p) = 0 then true else d) = true ∨ (qj_st (v p) (h, p, d, st, ow, sl)).2.1 < size ∧ D (qj_st (v p) (h, p, d, st, ow, sl)).2.1 = Int32.ofNat (qk_h (qj_w (v p)) h)
    by_cases w0 : qj_w (v p) = 0
    · left; rw [if_pos w0]
    · right
      have hn := k3.2.1
      by_cases w10 : qj_w (v p) = 10
      · rw [s4 w10]
        refine ⟨?_, k6 (Or.inl w10)⟩
        have := hn (Or.inl w10)
        rw [qv_Nt]; omega
      · by_cases w11 : qj_w (v p) = 11
        · rcases s5 w11 with e2 | e2
          · rw [e2]; exact k5 w0 w10
          · rw [e2]
            refine ⟨?_, k6 (Or.inr w11)⟩
            have := hn (Or.inr w11)
            rw [qv_Nt]; omega
        · rw [s3 w0 w10 w11]; exact k5 w0 w10
theorem qy_run {v : Nat → Int32} {size : Nat} {D : Nat → Int32} (hD : qk_V v size D) (hs : size ≤ 32) {J : qj} (hI : qy_I size D J) : ∀ k, qy_I size D (qj_run v k J) := by
  intro k
  induction k with
  | zero => exact hI
  | succ k ih =>
    unfold qj_run
    by_cases hd : (qj_run v k J).2.2.1 = true
    · rw [if_pos hd]; exact ih
    · rw [if_neg hd]; exact qy_step hD hs ih (by cases h : (qj_run v k J).2.2.1 <;> simp_all)
theorem qy_at {y : qp_S} {i size : Nat} {D : Nat → Int32} (hD : qk_V (qj_v y i) size D) (hs : size ≤ 32) (k : Nat) : qy_I size D (qj_at y i k) := by
  refine qy_run hD hs ⟨Nat.zero_le _, Or.inr ⟨hD.1, hD.2.1⟩⟩ k
theorem qy_succ {y : qp_S} {i k : Nat} (hd : (qj_at y i k).2.2.1 = false) : qj_at y i (k + 1) = qj_st (qj_v y i (qj_at y i k).2.1) (qj_at y i k) := by
  unfold qj_at at hd ⊢
  rw [qj_run, if_neg (by rw [hd]; simp)]
theorem qv_00 : (0 : Int32) = Int32.ofNat 0 := rfl
/-- what again leaves -/
def qy_Q (y : qp_S) (i N : Nat) (r : Int32 × qp_S) : Prop := ∃ k, r.1 = Int32.ofNat k ∧ k ≤ N ∧ (∀ j, j < k → (qj_at y i j).2.2.1 = false) ∧ (k = N ∨ (qj_at y i k).2.2.1 = true) ∧ qj_R r.2 (qj_at y i k) ∧ qx_F y r.2
theorem qy_word {y s : qp_S} {i k size : Nat} {D : Nat → Int32} (hs : size ≤ 32) (hD : qk_V (qj_v y i) size D) (hR : qj_R s (qj_at y i k)) (hF : qx_F y s) (hd : (qj_at y i k).2.2.1 = false) : (qj_at y i k).2.1 < size ∧ ∃ s' b, qf149 (s 32 0 (32 * i + (qj_at y i k).2.1)) s = some (b, s') ∧ qj_R s' (qj_at y i (k + 1)) ∧ qx_F y s' := by
  have hI := qy_at hD hs k
  obtain ⟨hh, hI⟩ := hI
  obtain ⟨hp, hD'⟩ : (qj_at y i k).2.1 < size ∧ D (qj_at y i k).2.1 = Int32.ofNat (qj_at y i k).1 := by
    rcases hI with h | h
    · rw [hd] at h; cases h
    · exact h
  obtain ⟨k1, k2, k3, k4, k5, k6⟩ := qy_ok hD hs hp hh hD'
  have hv : s 32 0 (32 * i + (qj_at y i k).2.1) = qj_v y i (qj_at y i k).2.1 := by
    rw [hF 32 0 _ (by omega) (by omega) (by omega) (by omega)]
    unfold qj_v; rw [if_pos (by omega)]
  rw [hv, qy_succ hd]
  refine ⟨hp, ?_⟩
  generalize qj_at y i k = J at *
  obtain ⟨h, p, d, st, ow, sl⟩ := J
  obtain ⟨s', b, he, hR', hF'⟩ := qx_149 (v := qj_v y i p) hR k1 k2 hh k4 hs k3
  exact ⟨s', b, he, hR', qx_Ft hF hF'⟩
theorem qya77 {y : qp_S} {i N : Nat} (hi : i < 8) (hN : N ≤ 200) (hg : 0 < N → ∃ size D, size ≤ 32 ∧ qk_V (qj_v y i) size D) (n : Nat) (hn : 300 ≤ n) (s : qp_S) (hR : qj_R s (qj_at y i 0)) (hF : qx_F y s) : ∃ r : Int32 × qp_S, qf148_77 n (Int32.ofNat i) (Int32.ofNat N) 0 s = some r ∧ qy_Q y i N r := by
  have l0 : (0:Int32).toInt = 0 := rfl; have l1 : (1:Int32).toInt = 1 := rfl; have lm : (-1:Int32).toInt = -1 := rfl; have l3 : (3:Int32).toInt = 3 := rfl; have l4 : (4:Int32).toInt = 4 := rfl; have l5 : (5:Int32).toInt = 5 := rfl; have l6 : (6:Int32).toInt = 6 := rfl; have l7 : (7:Int32).toInt = 7 := rfl; have l8 : (8:Int32).toInt = 8 := rfl; have l15 : (15:Int32).toInt = 15 := rfl; have l16 : (16:Int32).toInt = 16 := rfl; have l32 : (32:Int32).toInt = 32 := rfl
  have ti := qv_tI i (by omega)
  have tN := qv_tI N (by omega)
  rw [qv_00]
  refine qv_loop (fun n k s => qf148_77 n (Int32.ofNat i) (Int32.ofNat N) (Int32.ofNat k) s) N (fun k s => qj_R s (qj_at y i k) ∧ qx_F y s ∧ ∀ j, j < k → (qj_at y i j).2.2.1 = false) _ ?_ ?_ n 0 s (by omega) (by omega) ⟨hR, hF, fun j hj => absurd hj (Nat.not_lt_zero _)⟩
  · rintro n k s hk ⟨hR, hF, hj⟩
    have tk := qv_tI k (by omega)
    obtain ⟨size, D, hs, hD⟩ := hg (by omega)
    have hR3 := hR.2.2.1
    have hR2 := hR.2.1
    cases hd : (qj_at y i k).2.2.1 with
    | true =>
      left
      rw [hd] at hR3
      refine ⟨(Int32.ofNat k, s), ?_, k, rfl, by omega, hj, Or.inr hd, hR, hF⟩
      simp (disch := first | omega | assumption | decide) only [qf148_77, qu_ltT, qu_ltF, qu_gtT, qu_gtF, qu_geT, qu_geF, qu_leT, qu_leF, qu_eqT, qu_eqF, qu_neT, qu_neF, qu_inT, qu_24T, qu_24F, qu_116T, qu_116F, qu_13T, qu_13F, qu_25T, qu_25F, qu_26T, qu_26F, qu_117a, qu_117b, qu_117c, qu_117d, qu_10F, qu_00T, qu_n10, qu_n00, Option.bind_some, cond_true, cond_false, if_true, qv_tN, qv_c6, qv_c4, qv_c8, qv_c32, qv_d4, qv_d16, qv_f4, qv_a1, qv_a2, qv_a3, qv_add, qv_inT, hR3, qv_ne0]
    | false =>
      right
      rw [hd] at hR3
      obtain ⟨hp, s', b, he, hR', hF'⟩ := qy_word hs hD hR hF hd
      refine ⟨s', ?_, hR', hF', fun j hj' => ?_⟩
      · simp (disch := first | omega | assumption | decide) only [qf148_77, qu_ltT, qu_ltF, qu_gtT, qu_gtF, qu_geT, qu_geF, qu_leT, qu_leF, qu_eqT, qu_eqF, qu_neT, qu_neF, qu_inT, qu_24T, qu_24F, qu_116T, qu_116F, qu_13T, qu_13F, qu_25T, qu_25F, qu_26T, qu_26F, qu_117a, qu_117b, qu_117c, qu_117d, qu_10F, qu_00T, qu_n10, qu_n00, Option.bind_some, cond_true, cond_false, if_true, qv_tN, qv_c6, qv_c4, qv_c8, qv_c32, qv_d4, qv_d16, qv_f4, qv_a1, qv_a2, qv_a3, qv_add, qv_inT, hR3, qv_ne0, hR2, he]
      · by_cases e : j = k
        · subst e; exact hd
        · exact hj j (by omega)
  · rintro n s ⟨hR, hF, hj⟩
    refine ⟨(Int32.ofNat N, s), ?_, N, rfl, Nat.le_refl _, hj, Or.inl rfl, hR, hF⟩
    simp (disch := first | omega | assumption | decide) only [qf148_77, qu_ltT, qu_ltF, qu_gtT, qu_gtF, qu_geT, qu_geF, qu_leT, qu_leF, qu_eqT, qu_eqF, qu_neT, qu_neF, qu_inT, qu_24T, qu_24F, qu_116T, qu_116F, qu_13T, qu_13F, qu_25T, qu_25F, qu_26T, qu_26F, qu_117a, qu_117b, qu_117c, qu_117d, qu_10F, qu_00T, qu_n10, qu_n00, Option.bind_some, cond_true, cond_false, if_true, qv_tN, qv_c6, qv_c4, qv_c8, qv_c32, qv_d4, qv_d16, qv_f4, qv_a1, qv_a2, qv_a3, qv_add, qv_inT]
theorem qya46 {y : qp_S} {i N : Nat} (hi : i < 8) (hN : N ≤ 200) (hg : 0 < N → ∃ size D, size ≤ 32 ∧ qk_V (qj_v y i) size D) (n : Nat) (hn : 300 ≤ n) (s : qp_S) (e1 : s 30 0 33 = 0) (e2 : s 30 0 34 = 0) (e3 : s 30 0 35 = 0) (e4 : ∀ j, j < 4 → s 58 0 j = y 37 0 (4 * i + j)) (hF : qx_F y s) : ∃ r : Int32 × qp_S, qf148_46 n (Int32.ofNat i) (Int32.ofNat N) 0 s = some r ∧ qy_Q y i N r := by
  have l0 : (0:Int32).toInt = 0 := rfl; have l1 : (1:Int32).toInt = 1 := rfl; have lm : (-1:Int32).toInt = -1 := rfl; have l3 : (3:Int32).toInt = 3 := rfl; have l4 : (4:Int32).toInt = 4 := rfl; have l5 : (5:Int32).toInt = 5 := rfl; have l6 : (6:Int32).toInt = 6 := rfl; have l7 : (7:Int32).toInt = 7 := rfl; have l8 : (8:Int32).toInt = 8 := rfl; have l15 : (15:Int32).toInt = 15 := rfl; have l16 : (16:Int32).toInt = 16 := rfl; have l32 : (32:Int32).toInt = 32 := rfl
  rw [qv_00]
  refine qv_loop (fun n k s => qf148_46 n (Int32.ofNat i) (Int32.ofNat N) (Int32.ofNat k) s) 6 (fun k s => s 30 0 33 = 0 ∧ s 30 0 34 = 0 ∧ s 30 0 35 = 0 ∧ (∀ j, j < 4 → s 58 0 j = y 37 0 (4 * i + j)) ∧ qx_F y s ∧ ∀ j, j < k → s 59 0 j = y 36 0 (6 * i + j)) _ ?_ ?_ n 0 s (by omega) (by omega) ⟨e1, e2, e3, e4, hF, fun j hj => absurd hj (Nat.not_lt_zero _)⟩
  · rintro n k s hk ⟨e1, e2, e3, e4, hF, e5⟩
    right
    refine ⟨qp_up s 59 0 k (s 36 0 (6 * i + k)), ?_, e1, e2, e3, e4, qx_Fu (by omega) hF, fun j hj => ?_⟩
    · simp (disch := first | omega | assumption | decide) only [qf148_46, qv_g4, qv_g6, qv_g8, qv_g16, qv_g32, qv_g48, qv_e4, qv_e6, qv_e8, qv_e16, qv_e32, qv_e48, qv_inT, qv_tN, qv_s1, cond_false, cond_true, if_true, qu_ltT, qu_ltF, qu_gtT, qu_gtF, qu_geT, qu_geF, qu_leT, qu_leF, qu_eqT, qu_eqF, qu_neT, qu_neF, qu_inT, qu_24T, qu_24F, qu_116T, qu_116F, qu_13T, qu_13F, qu_25T, qu_25F, qu_26T, qu_26F, qu_117a, qu_117b, qu_117c, qu_117d, qu_10F, qu_00T, qu_n10, qu_n00, Option.bind_some, cond_true, cond_false, if_true, qv_tN, qv_c6, qv_c4, qv_c8, qv_c32, qv_d4, qv_d16, qv_f4, qv_a1, qv_a2, qv_a3, qv_add, qv_inT]
    · by_cases e : j = k
      · subst e; rw [qu_ps]; exact hF 36 0 _ (by omega) (by omega) (by omega) (by omega)
      · rw [qu_pj e]; exact e5 j (by omega)
  · rintro n s ⟨e1, e2, e3, e4, hF, e5⟩
    obtain ⟨r, hr, hq⟩ := qya77 hi hN hg 4096 (by omega) s (by
      refine ⟨e1, e2, e3, fun j hj => absurd hj (Nat.not_lt_zero _), fun j hj => ?_, fun j hj => ?_⟩
      · show _ = if j < 4 then _ else _
        rw [if_pos hj]; exact e4 j hj
      · show _ = if j < 6 then _ else _
        rw [if_pos hj]; exact e5 j hj) hF
    refine ⟨r, ?_, hq⟩
    unfold qf148_46
    rw [qv_e6, cond_true]
    exact hr
theorem qya17 {y : qp_S} {i N : Nat} (hi : i < 8) (hN : N ≤ 200) (hg : 0 < N → ∃ size D, size ≤ 32 ∧ qk_V (qj_v y i) size D) (n : Nat) (hn : 300 ≤ n) (s : qp_S) (e1 : s 30 0 33 = 0) (e2 : s 30 0 34 = 0) (e3 : s 30 0 35 = 0) (hF : qx_F y s) : ∃ r : Int32 × qp_S, qf148_17 n (Int32.ofNat i) (Int32.ofNat N) 0 s = some r ∧ qy_Q y i N r := by
  have l0 : (0:Int32).toInt = 0 := rfl; have l1 : (1:Int32).toInt = 1 := rfl; have lm : (-1:Int32).toInt = -1 := rfl; have l3 : (3:Int32).toInt = 3 := rfl; have l4 : (4:Int32).toInt = 4 := rfl; have l5 : (5:Int32).toInt = 5 := rfl; have l6 : (6:Int32).toInt = 6 := rfl; have l7 : (7:Int32).toInt = 7 := rfl; have l8 : (8:Int32).toInt = 8 := rfl; have l15 : (15:Int32).toInt = 15 := rfl; have l16 : (16:Int32).toInt = 16 := rfl; have l32 : (32:Int32).toInt = 32 := rfl
  rw [qv_00]
  refine qv_loop (fun n k s => qf148_17 n (Int32.ofNat i) (Int32.ofNat N) (Int32.ofNat k) s) 4 (fun k s => s 30 0 33 = 0 ∧ s 30 0 34 = 0 ∧ s 30 0 35 = 0 ∧ qx_F y s ∧ ∀ j, j < k → s 58 0 j = y 37 0 (4 * i + j)) _ ?_ ?_ n 0 s (by omega) (by omega) ⟨e1, e2, e3, hF, fun j hj => absurd hj (Nat.not_lt_zero _)⟩
  · rintro n k s hk ⟨e1, e2, e3, hF, e5⟩
    right
    refine ⟨qp_up s 58 0 k (s 37 0 (4 * i + k)), ?_, e1, e2, e3, qx_Fu (by omega) hF, fun j hj => ?_⟩
    · simp (disch := first | omega | assumption | decide) only [qf148_17, qv_g4, qv_g6, qv_g8, qv_g16, qv_g32, qv_g48, qv_e4, qv_e6, qv_e8, qv_e16, qv_e32, qv_e48, qv_inT, qv_tN, qv_s1, cond_false, cond_true, if_true, qu_ltT, qu_ltF, qu_gtT, qu_gtF, qu_geT, qu_geF, qu_leT, qu_leF, qu_eqT, qu_eqF, qu_neT, qu_neF, qu_inT, qu_24T, qu_24F, qu_116T, qu_116F, qu_13T, qu_13F, qu_25T, qu_25F, qu_26T, qu_26F, qu_117a, qu_117b, qu_117c, qu_117d, qu_10F, qu_00T, qu_n10, qu_n00, Option.bind_some, cond_true, cond_false, if_true, qv_tN, qv_c6, qv_c4, qv_c8, qv_c32, qv_d4, qv_d16, qv_f4, qv_a1, qv_a2, qv_a3, qv_add, qv_inT]
    · by_cases e : j = k
      · subst e; rw [qu_ps]; exact hF 37 0 _ (by omega) (by omega) (by omega) (by omega)
      · rw [qu_pj e]; exact e5 j (by omega)
  · rintro n s ⟨e1, e2, e3, hF, e5⟩
    obtain ⟨r, hr, hq⟩ := qya46 hi hN hg 4096 (by omega) s e1 e2 e3 e5 hF
    refine ⟨r, ?_, hq⟩
    unfold qf148_17
    rw [qv_e4, cond_true]
    exact hr
theorem qya148 {y : qp_S} {i N : Nat} (hi : i < 8) (hN : N ≤ 200) (hg : 0 < N → ∃ size D, size ≤ 32 ∧ qk_V (qj_v y i) size D) : ∃ r : Int32 × qp_S, qf148 (Int32.ofNat i) (Int32.ofNat N) y = some r ∧ qy_Q y i N r := by
  unfold qf148
  exact qya17 hi hN hg 4096 (by omega) _ rfl rfl rfl (qx_Fn (by omega) (qx_Fn (by omega) (qx_Fn (by omega) qx_Fr)))
