/-! one step of a job -/
def qa_c (x y : qp_S) : qp_S := fun k => if k < 30 then x k else y k
theorem qa_cc {x y : qp_S} {r : Bool} {T B c n : Nat} : qa x y r T B c n ↔ qa (qa_c x y) (qa_c x y) r T B c n := Iff.rfl
theorem qa_cg {x y x' y' : qp_S} {r : Bool} {T B c n : Nat} (hx : ∀ k, k < 30 → x' k = x k) (hy : ∀ k, 30 ≤ k → y' k = y k) (h : qa x y r T B c n) : qa x' y' r T B c n := by
  have e : qa_c x' y' = qa_c x y := by
    funext k
    unfold qa_c
    by_cases hk : k < 30
    · rw [if_pos hk, if_pos hk]; exact hx k hk
    · rw [if_neg hk, if_neg hk]; exact hy k (by omega)
  rw [qa_cc, e, ← qa_cc]; exact h
theorem qj_Cc {x x' : qp_S} {i : Nat} {J : qj} (h1 : x' 19 i 1 = x 19 i 1) (h2 : x' 14 i 10 = x 14 i 10) (h3 : ∀ j, x' 20 i j = x 20 i j) (h4 : ∀ j, x' 18 i j = x 18 i j) (h5 : ∀ j, j < 6 → x' 16 (6 * i + j) 2 = x 16 (6 * i + j) 2) (h : qj_C x i J) : qj_C x' i J := by
  obtain ⟨e1, e2, e3, e4, e5⟩ := h
  exact ⟨h1.trans e1, h2.trans e2, fun j hj => (h3 j).trans (e3 j hj), fun j hj => (h4 j).trans (e4 j hj), fun j hj => (h5 j hj).trans (e5 j hj)⟩
theorem qa_Jx {x x' y : qp_S} {i : Nat} (h0 : ∀ c, 3 ≤ c → x' 14 i c = x 14 i c) (h1 : x' 19 i 1 = x 19 i 1) (h3 : ∀ j, x' 20 i j = x 20 i j) (h4 : ∀ j, x' 18 i j = x 18 i j) (h5 : ∀ j, j < 6 → x' 16 (6 * i + j) 2 = x 16 (6 * i + j) 2) (h : qa_J x y i) : qa_J x' y i := by
  rcases h with ⟨a1, a2, a3, a4, a5, a6⟩ | ⟨a1, a, t, b, a2, a3, a4, a5, a6, a7, a8, a9, a10, a11, a12, a13, a14, a15⟩
  · exact Or.inl ⟨a1, (h0 3 (by decide)).trans a2, (h0 8 (by decide)).trans a3, (h0 9 (by decide)).trans a4, (h0 4 (by decide)).trans a5, qj_Cc h1 (h0 10 (by decide)) h3 h4 h5 a6⟩
  · exact Or.inr ⟨a1, a, t, b, a2, a3, a4, a5, a6, a7, a8, a9, a10, (h0 9 (by decide)).trans a11, (h0 4 (by decide)).trans a12, (h0 8 (by decide)).trans a13, (h0 3 (by decide)).trans a14, qj_Cc h1 (h0 10 (by decide)) h3 h4 h5 a15⟩
theorem qa_Jy {x y y' : qp_S} {i : Nat} (h50 : y' 50 0 i = y 50 0 i) (h31 : y' 31 0 i = y 31 0 i) (h53 : y' 53 0 i = y 53 0 i) (h54 : y' 54 0 i = y 54 0 i) (h55 : y' 55 0 i = y 55 0 i) (h51 : y' 51 0 i = y 51 0 i) (h52 : y' 52 0 i = y 52 0 i) (hv : qj_v y' i = qj_v y i) (h0 : qj_0 y' i = qj_0 y i) (h : qa_J x y i) : qa_J x y' i := by
  have ha : ∀ k, qj_at y' i k = qj_at y i k := fun k => by unfold qj_at; rw [hv, h0]
  rcases h with ⟨a1, a2, a3, a4, a5, a6⟩ | ⟨a1, a, t, b, a2, a3, a4, a5, a6, a7, a8, a9, a10, a11, a12, a13, a14, a15⟩
  · exact Or.inl ⟨h50.trans a1, a2, a3, a4, a5, by rw [h0]; exact a6⟩
  · refine Or.inr ⟨h50.trans a1, a, t, b, h31.trans a2, a3, h53.trans a4, h54.trans a5, a6, a7, fun k hk => by rw [ha]; exact a8 k hk, by rw [ha]; exact a9, by rw [ha, h55]; exact a10, a11, by rw [h55]; exact a12, by rw [h51]; exact a13, by rw [h52]; exact a14, by rw [ha]; exact a15⟩
/-- a task with a job is used, so its code is good -/
theorem qa_snd {x y : qp_S} {r : Bool} {T B c n i : Nat} (h : qa x y r T B c n) (hi : i < 8) (hj : y 50 0 i = 1) : r = true ∧ qk_S y i := by
  have hZ := h.2.2.2.2.2.2.2.2.2.2
  obtain ⟨z1, z2, z3, z4, z5, z6⟩ := hZ
  cases r with
  | false =>
    have := (z5 rfl).2.2.2.2.2 i hi
    rw [hj] at this; exact absurd this (by decide)
  | true =>
    obtain ⟨w1, w2, w3, w4⟩ := z6 rfl
    obtain ⟨q, hq, -⟩ := w4 i hi hj
    exact ⟨rfl, w1.2.2 i hi ⟨c, z3, w2, by omega⟩⟩
theorem qv_m1 (k : Nat) (h : 0 < k) : Int32.ofNat k - 1 = Int32.ofNat (k - 1) := by
  obtain ⟨z, rfl⟩ : ∃ z, k = z + 1 := ⟨k - 1, by omega⟩
  exact qx_m1 z
theorem qa_95 {x y : qp_S} {r : Bool} {T B c n i : Nat} (h : qa x y r T B c n) (hi : i < 8) (ho : 0 < (x 14 i 9).toInt) : ∃ x' b, qf95 i x = some (b, x') ∧ qa x' (qp_up y 53 0 i (y 53 0 i + 1)) r T B c n ∧ ∀ k, 30 ≤ k → x' k = x k := by
  have l0 : (0:Int32).toInt = 0 := rfl; have l1 : (1:Int32).toInt = 1 := rfl; have lm : (-1:Int32).toInt = -1 := rfl; have l3 : (3:Int32).toInt = 3 := rfl; have l4 : (4:Int32).toInt = 4 := rfl; have l5 : (5:Int32).toInt = 5 := rfl; have l6 : (6:Int32).toInt = 6 := rfl; have l7 : (7:Int32).toInt = 7 := rfl; have l8 : (8:Int32).toInt = 8 := rfl; have l15 : (15:Int32).toInt = 15 := rfl; have l16 : (16:Int32).toInt = 16 := rfl; have l32 : (32:Int32).toInt = 32 := rfl
  rcases h.2.2.2.2.2.2.2.2.2.1 i hi with hj | hj
  · rw [hj.2.2.2.1] at ho; exact absurd ho (by decide)
  obtain ⟨a1, a, t, b, a2, a3, a4, a5, a6, a7, a8, a9, a10, a11, a12, a13, a14, a15⟩ := hj
  obtain ⟨rfl, D, hD, hWd⟩ := qa_snd h hi a1
  obtain ⟨sz, hsz, esz⟩ := h.2.1.2.2 i hi
  have eS : qN (y 33 0 i) = sz := by rw [esz]; exact qv_tN sz (by omega)
  rw [eS] at hD
  have hat : a < t := by
    by_cases e : a < t
    · exact e
    · rw [a11, if_neg e] at ho; exact absurd ho (by decide)
  rw [if_pos hat] at a11 a12
  have hd := a8 a hat
  obtain ⟨hh, hI⟩ := qy_at hD hsz a
  obtain ⟨hp, hD'⟩ : (qj_at y i a).2.1 < sz ∧ D (qj_at y i a).2.1 = Int32.ofNat (qj_at y i a).1 := by
    rcases hI with h | h
    · rw [hd] at h; cases h
    · exact h
  obtain ⟨k1, k2, k3, k4, k5, k6⟩ := qy_ok hD hsz hp hh hD'
  have hsucc := qy_succ hd
  have hw : x 17 i (qj_at y i a).2.1 = qj_v y i (qj_at y i a).2.1 := by
    rw [h.2.1.2.1 i _ hi (by omega)]
    unfold qj_v; rw [if_pos (by omega)]
  have hWd' := hWd (qj_at y i a).2.1 (by omega) (by rw [hD']; exact qv_mm _ (by omega))
  generalize hJ : qj_at y i a = J at *
  obtain ⟨jh, p, d, st, ow, sl⟩ := J
  dsimp only at hd hh hp hD' k1 k2 k3 k4 k5 k6 hw hWd' hsucc
  have tp := qv_tI p (by omega)
  have tsz := qv_tI sz (by omega)
  have hwc : x 14 i 1 = Int32.ofNat sz := (h.2.1.1 i).trans esz
  have hnx : x 14 i 10 = Int32.ofNat p := a15.2.1
  obtain ⟨x1, hx1⟩ : ∃ x1, x1 = qp_up (qp_up x 14 i 10 (Int32.ofNat (p + 1))) 14 i 9 (Int32.ofNat (b - a - 1)) := ⟨_, rfl⟩
  have hC1 : qj_C x1 i (jh, p + 1, d, st, ow, sl) := by
    obtain ⟨e1, e2, e3, e4, e5⟩ := a15
    subst hx1
    exact ⟨e1, by rw [qu_pj (by decide)]; exact qu_ps, e3, e4, e5⟩
  obtain ⟨x2, b2, he2, hC2, hF2⟩ := qw_96 (v := qj_v y i p) hC1 k1 k2 hh k4 hsz k3
  rw [← hsucc] at hC2
  have hs2 : x2 14 i 9 = Int32.ofNat (b - a - 1) := by
    rw [hF2 14 i 9 (by omega) (by omega) (by omega), hx1]; exact qu_ps
  have ho2 : x2 14 i 4 = 0 := by
    rw [hF2 14 i 4 (by omega) (by omega) (by omega), hx1, qu_pj (by decide), qu_pj (by decide)]; exact a12
  obtain ⟨ew, -⟩ := qw_w (qj_v y i p)
  have hst : (qj_at y i (a + 1)).2.2.1 = (if qj_w (qj_v y i p) = 0 then true else d) := by
    rw [hsucc]; exact (qy_st k1 k2).2.1
  -- the store behind the step, and what is unlike in it
  obtain ⟨x3, b3, he3, h9, h4, hF3⟩ : ∃ x3 b3, qf95 i x = some (b3, x3) ∧ x3 14 i 9 = (if a + 1 < t then Int32.ofNat (b - (a + 1)) else 0) ∧ x3 14 i 4 = (if a + 1 < t then 0 else y 55 0 i) ∧ ∀ k e f, ¬ (k = 14 ∧ e = i ∧ (f = 9 ∨ f = 4)) → x3 k e f = x2 k e f := by
    have he1 : qf57 i (x 14 i 10) x = some (qj_v y i p) := by
      rw [hnx, ← hw]
      simp (disch := first | omega | assumption | decide) only [qf57, hwc, qu_ltT, qu_ltF, qu_gtT, qu_gtF, qu_geT, qu_geF, qu_leT, qu_leF, qu_eqT, qu_eqF, qu_neT, qu_neF, qu_inT, qu_24T, qu_24F, qu_116T, qu_116F, qu_13T, qu_13F, qu_25T, qu_25F, qu_26T, qu_26F, qu_117a, qu_117b, qu_117c, qu_117d, qu_10F, qu_00T, qu_n10, qu_n00, Option.bind_some, cond_true, cond_false, if_true, qv_tN, qv_c6, qv_c4, qv_c8, qv_c32, qv_d4, qv_d16, qv_f4, qv_a1, qv_a2, qv_a3, qv_add, qv_inT]
    have e1 : qf95 i x = ((qf96 i (qj_v y i p) x1).bind fun q2 => ((qf58 (qj_v y i p) q2.2).bind fun q3 => (bif qm_cmp .ne q3 (0 : Int32) then (bif qm_cmp .ne (q2.2 14 i 9) (0 : Int32) then some (0, q2.2) else some (0, (qp_up q2.2 14 i 4 (1 : Int32)))) else some (0, (qp_up q2.2 14 i 9 (0 : Int32)))))) := by
      unfold qf95
      rw [he1, Option.bind_some, hnx, qv_s1, qu_pj (by decide), a11, qv_m1 (b - a) (by omega), ← hx1]
    rw [he2, Option.bind_some] at e1
    have e2 : qf58 (qj_v y i p) x2 = some (Int32.ofNat (qj_w (qj_v y i p))) := by rw [← ew]; rfl
    rw [e2, Option.bind_some] at e1
    dsimp only at e1
    rw [hs2] at e1
    have tw := qv_tI (qj_w (qj_v y i p)) (by omega)
    have tba := qv_tI (b - a - 1) (by omega)
    by_cases w0 : qj_w (qj_v y i p) = 0
    · rw [if_pos w0] at hst
      have ht : t = a + 1 := by
        by_cases e : a + 1 < t
        · have := a8 (a + 1) e; rw [hst] at this; cases this
        · omega
      refine ⟨qp_up x2 14 i 9 0, 0, ?_, ?_, ?_, ?_⟩
      rotate_left
      · rw [if_neg (by omega)]; exact qu_ps
      · rw [if_neg (by omega), a10, ht, hst, qu_pj (by decide)]; exact ho2
      · intro k e f hne
        exact if_neg (fun hq => hne ⟨hq.1, hq.2.1, Or.inl hq.2.2⟩)
      · rw [e1]
        simp (disch := first | omega | assumption | decide) only [qu_ltT, qu_ltF, qu_gtT, qu_gtF, qu_geT, qu_geF, qu_leT, qu_leF, qu_eqT, qu_eqF, qu_neT, qu_neF, qu_inT, qu_24T, qu_24F, qu_116T, qu_116F, qu_13T, qu_13F, qu_25T, qu_25F, qu_26T, qu_26F, qu_117a, qu_117b, qu_117c, qu_117d, qu_10F, qu_00T, qu_n10, qu_n00, Option.bind_some, cond_true, cond_false, if_true, qv_tN]
    · rw [if_neg w0, hd] at hst
      by_cases hb : b - a - 1 = 0
      · have ht : t = a + 1 := by omega
        refine ⟨qp_up x2 14 i 4 1, 0, ?_, ?_, ?_, ?_⟩
        rotate_left
        · rw [if_neg (by omega), qu_pj (by decide), hs2, hb]; rfl
        · rw [if_neg (by omega), a10, ht, hst]; exact qu_ps
        · intro k e f hne
          exact if_neg (fun hq => hne ⟨hq.1, hq.2.1, Or.inr hq.2.2⟩)
        · rw [e1]
          simp (disch := first | omega | assumption | decide) only [qu_ltT, qu_ltF, qu_gtT, qu_gtF, qu_geT, qu_geF, qu_leT, qu_leF, qu_eqT, qu_eqF, qu_neT, qu_neF, qu_inT, qu_24T, qu_24F, qu_116T, qu_116F, qu_13T, qu_13F, qu_25T, qu_25F, qu_26T, qu_26F, qu_117a, qu_117b, qu_117c, qu_117d, qu_10F, qu_00T, qu_n10, qu_n00, Option.bind_some, cond_true, cond_false, if_true, qv_tN]
      · have ht : a + 1 < t := by
          by_cases e : a + 1 < t
          · exact e
          · have : t = a + 1 := by omega
            subst this
            rcases a9 with g | g
            · rw [hst] at g; cases g
            · omega
        refine ⟨x2, 0, ?_, ?_, ?_, fun _ _ _ _ => rfl⟩
        · rw [e1]
          simp (disch := first | omega | assumption | decide) only [qu_ltT, qu_ltF, qu_gtT, qu_gtF, qu_geT, qu_geF, qu_leT, qu_leF, qu_eqT, qu_eqF, qu_neT, qu_neF, qu_inT, qu_24T, qu_24F, qu_116T, qu_116F, qu_13T, qu_13F, qu_25T, qu_25F, qu_26T, qu_26F, qu_117a, qu_117b, qu_117c, qu_117d, qu_10F, qu_00T, qu_n10, qu_n00, Option.bind_some, cond_true, cond_false, if_true, qv_tN]
        · rw [if_pos ht, hs2]; rfl
        · rw [if_pos ht]; exact ho2
  -- all in one
  have hF : ∀ k e f, ¬ (k = 14 ∧ e = i ∧ (f = 9 ∨ f = 4 ∨ f = 10)) → ¬ ((k = 18 ∨ k = 19 ∨ k = 20) ∧ e = i) → ¬ (k = 16 ∧ f = 2 ∧ qj_w (qj_v y i p) = 3 ∧ e = 6 * i + qN (qj_n (qj_v y i p))) → x3 k e f = x k e f := by
    intro k e f n1 n2 n3
    rw [hF3 k e f (fun g => n1 ⟨g.1, g.2.1, by omega⟩), hF2 k e f (fun g => n1 ⟨g.1, g.2.1, by omega⟩) n2 n3, hx1]
    unfold qp_up
    rw [if_neg (fun g => n1 ⟨g.1, g.2.1, by omega⟩), if_neg (fun g => n1 ⟨g.1, g.2.1, by omega⟩)]
  have hn6 : qj_w (qj_v y i p) = 3 → qN (qj_n (qj_v y i p)) < 6 := by
    intro g
    have := k3.1 (Or.inr g)
    rw [qv_Nt]; omega
  refine ⟨x3, b3, he3, ?_, fun k hk => ?_⟩
  · obtain ⟨hB, hW, hS, hP, hM, hG, hD0, hE, hK, hJ0, hZ⟩ := h
    have f1 : ∀ c, c < 3 → ∀ q, x3 14 q c = x 14 q c := fun c hc q => hF 14 q c (by omega) (by omega) (by omega)
    have f2 : ∀ k, k ≠ 14 → k ≠ 18 → k ≠ 19 → k ≠ 20 → k ≠ 16 → ∀ e f, x3 k e f = x k e f := fun k g1 g2 g3 g4 g5 e f => hF k e f (by omega) (by omega) (by omega)
    refine ⟨⟨fun q => ?_, hB.2⟩, ⟨fun q => ?_, fun q j h1 h2 => ?_, hW.2.2⟩, ⟨fun k => ?_, fun k => ?_, hS.2.2.1, fun k h1 h2 => ?_⟩, fun p => ?_, ⟨fun m => ?_, fun m q h1 h2 => ?_, hM.2.2⟩, ⟨fun q j h1 h2 => ?_, hG.2⟩, ⟨fun k => ?_, hD0.2⟩, fun k => ?_, ?_, fun q hq => ?_, hZ⟩
    · rw [f1 0 (by decide)]; exact hB.1 q
    · rw [f1 1 (by decide)]; exact hW.1 q
    · rw [f2 17 (by decide) (by decide) (by decide) (by decide) (by decide)]; exact hW.2.1 q j h1 h2
    · rw [hF 16 k 0 (by omega) (by omega) (by omega)]; exact hS.1 k
    · rw [hF 16 k 1 (by omega) (by omega) (by omega)]; exact hS.2.1 k
    · rw [hF 16 k 2 (by omega) (by omega) (fun g => by
        have g2 := hWd'.2 g.2.2.1
        rw [← g.2.2.2] at g2
        have h2 : y 34 0 k = -1 := h2
        rw [g2] at h2; exact absurd h2 (by decide))]
      exact hS.2.2.2 k h1 h2
    · have g := hP p
      rw [f2 21 (by decide) (by decide) (by decide) (by decide) (by decide), f2 21 (by decide) (by decide) (by decide) (by decide) (by decide), f2 21 (by decide) (by decide) (by decide) (by decide) (by decide)]
      exact g
    · rw [f2 22 (by decide) (by decide) (by decide) (by decide) (by decide), f2 22 (by decide) (by decide) (by decide) (by decide) (by decide)]; exact hM.1 m
    · rw [f2 23 (by decide) (by decide) (by decide) (by decide) (by decide)]; exact hM.2.1 m q h1 h2
    · rw [f2 25 (by decide) (by decide) (by decide) (by decide) (by decide)]; exact hG.1 q j h1 h2
    · rw [f2 5 (by decide) (by decide) (by decide) (by decide) (by decide), f2 6 (by decide) (by decide) (by decide) (by decide) (by decide), f2 26 (by decide) (by decide) (by decide) (by decide) (by decide), f2 26 (by decide) (by decide) (by decide) (by decide) (by decide), f2 26 (by decide) (by decide) (by decide) (by decide) (by decide)]; exact hD0.1 k
    · rw [f2 9 (by decide) (by decide) (by decide) (by decide) (by decide)]; exact hE k
    · unfold qa_K
      rw [f2 1 (by decide) (by decide) (by decide) (by decide) (by decide), f2 1 (by decide) (by decide) (by decide) (by decide) (by decide), f2 1 (by decide) (by decide) (by decide) (by decide) (by decide), f2 1 (by decide) (by decide) (by decide) (by decide) (by decide), f2 8 (by decide) (by decide) (by decide) (by decide) (by decide)]; exact hK
    · by_cases e : q = i
      · subst e
        refine Or.inr ⟨a1, a + 1, t, b, a2, a3, ?_, a5, hat, a7, a8, a9, a10, h9, h4, ?_, ?_, ?_⟩
        · rw [qu_ps, a4]; exact qv_s1 a
        · rw [hF 14 q 8 (by omega) (by omega) (by omega)]; exact a13
        · rw [hF 14 q 3 (by omega) (by omega) (by omega)]; exact a14
        · refine qj_Cc ?_ ?_ (fun j => ?_) (fun j => ?_) (fun j hj => ?_) hC2
          · exact hF3 _ _ _ (by omega)
          · exact hF3 _ _ _ (by omega)
          · exact hF3 _ _ _ (by omega)
          · exact hF3 _ _ _ (by omega)
          · exact hF3 _ _ _ (by omega)
      · refine qa_Jy (y := y) rfl rfl (qu_pj e) rfl rfl rfl rfl rfl rfl (qa_Jx (x := x) ?_ ?_ ?_ ?_ ?_ (hJ0 q hq))
        · exact fun c hc => hF 14 q c (by omega) (by omega) (by omega)
        · exact hF _ _ _ (by omega) (by omega) (by omega)
        · exact fun j => hF _ _ _ (by omega) (by omega) (by omega)
        · exact fun j => hF _ _ _ (by omega) (by omega) (by omega)
        · refine fun j hj => hF _ _ _ (by omega) (by omega) (fun g => ?_)
          have := hn6 g.2.2.1
          have := g.2.2.2
          omega
  · funext e f
    exact hF k e f (by omega) (by omega) (by omega)
