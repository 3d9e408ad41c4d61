/-! the class's look at a code, whole -/
theorem qk_c0 {D : Nat → Int32} : ∀ m, (∀ p, p < m → D p = -1) → qk_c D m = 0 := by
  intro m
  induction m with
  | zero => intro _; rfl
  | succ m ih =>
    intro h
    unfold qk_c
    rw [ih (fun p hp => h p (by omega)), if_pos (h m (by omega))]
theorem qs_11 (x : qp_S) : ∃ x1, qf11 (-1) x = some (0, x1) ∧ qfr [12] x x1 ∧ ∀ p, p < 32 → x1 12 0 p = -1 := by
  obtain ⟨x1, m, e, f1, f2⟩ := qv_loop5 (fun n k s => qf11_5 n (-1) (Int32.ofNat k) 32 s) 32 (fun k s => qfr [12] x s ∧ ∀ p, p < k → s 12 0 p = -1)
    (by
      rintro k s hk ⟨h1, h2⟩
      refine ⟨qp_up s 12 0 k (-1), fun n => ?_, qfr_up (by decide) h1, fun p hp => ?_⟩
      · simp (disch := first | omega | assumption | decide) only [qf11_5, qv_g4, qv_g6, qv_g8, qv_g16, qv_g32, qv_g48, qv_e4, qv_e6, qv_e8, qv_e16, qv_e32, qv_e48, qv_inT, qv_tN, qv_s1, qv_ct, qv_cf, if_true]
      · by_cases e : p = k
        · subst e; exact qu_ps
        · rw [qu_pj e]; exact h2 p (by omega)) 4096 x (by decide) ⟨qfr_r, fun p hp => absurd hp (Nat.not_lt_zero _)⟩
  refine ⟨x1, ?_, f1, f2⟩
  unfold qf11
  show qf11_5 4096 (-1) (Int32.ofNat 0) 32 x = _
  rw [e]
  unfold qf11_5
  rw [qv_e32, cond_true]
theorem qs_54 {v : Nat → Int32} {size i : Nat} {x : qp_S} (hs : size ≤ 32) (e1 : x 14 i 1 = Int32.ofNat size) (hv : ∀ p, p < size → x 17 i p = v p) : ∃ g x', qf54 i x = some (qv_b g, x') ∧ qfr [11, 12, 13] x x' ∧ (g = false → ¬ ∃ D', qk_V v size D') ∧ (g = true → qs_X v size x' ∧ qk_V v size (x' 12 0)) := by
  have l0 : (0:Int32).toInt = 0 := rfl; have l1 : (1:Int32).toInt = 1 := rfl; have lm : (-1:Int32).toInt = -1 := rfl; have l3 : (3:Int32).toInt = 3 := rfl; have l4 : (4:Int32).toInt = 4 := rfl; have l5 : (5:Int32).toInt = 5 := rfl; have l6 : (6:Int32).toInt = 6 := rfl; have l7 : (7:Int32).toInt = 7 := rfl; have l8 : (8:Int32).toInt = 8 := rfl; have l15 : (15:Int32).toInt = 15 := rfl; have l16 : (16:Int32).toInt = 16 := rfl; have l32 : (32:Int32).toInt = 32 := rfl
  have tz := qv_tI size (by omega)
  obtain ⟨x1, g1, g2, g3⟩ := qs_11 x
  have hm : ∀ k, k ∈ [12] → k ∈ [11, 12, 13] := by decide
  have g2' := qfr_m hm g2
  have e1' : x1 14 i 1 = Int32.ofNat size := by rw [g2 14 (by decide)]; exact e1
  rcases Nat.eq_zero_or_pos size with h0 | h0
  · subst h0
    refine ⟨false, qp_up x1 11 0 2 0, ?_, qfr_up (by decide) g2', fun _ => ?_, fun g => by cases g⟩
    · unfold qf54
      have e55 : qf55 i 0 0 (qp_up x1 11 0 2 0) = some (0, qp_up x1 11 0 2 0) := by
        have e2 : (qp_up x1 11 0 2 0) 14 i 1 = 0 := e1'
        unfold qf55
        rw [e2, qu_13F (by omega)]; rfl
      rw [g1, Option.bind_some]
      dsimp only
      rw [e55, Option.bind_some]
      dsimp only
      unfold qf54_23
      have e3 : (qp_up x1 11 0 2 0) 11 0 2 = 0 := qu_ps
      rw [e3]
      rfl
    · rintro ⟨D', hV⟩
      exact absurd hV.1 (Nat.lt_irrefl 0)
  · obtain ⟨x3, hx3⟩ : ∃ x3, x3 = qp_up (qp_up (qp_up (qp_up x1 11 0 2 0) 12 0 0 0) 13 0 0 0) 11 0 2 1 := ⟨_, rfl⟩
    have hD : x3 12 0 = qj_up (x1 12 0) 0 0 := by
      funext q
      rw [hx3]
      show qp_up (qp_up x1 11 0 2 0) 12 0 0 0 12 0 q = _
      unfold qj_up
      by_cases e : q = 0
      · subst e; rw [if_pos rfl]; exact qu_ps
      · rw [if_neg e, qu_pj e]; rfl
    have hcnt : qk_c (x3 12 0) 32 = 1 := by
      rw [hD, qk_cup (g3 0 (by decide)) (by decide), qk_c0 32 g3]; rfl
    have hDq : ∀ q, q < 32 → x3 12 0 q = if q = 0 then 0 else -1 := by
      intro q hq
      rw [hD]; unfold qj_up
      by_cases e : q = 0
      · rw [if_pos e, if_pos e]
      · rw [if_neg e, if_neg e, g3 q hq]
    have hX : qs_X v size x3 := by
      refine ⟨⟨hDq 0 (by decide), fun q hq => ?_, fun D' hV q hq g => ?_⟩, ?_, fun j hj => ?_, fun q hq g => ?_⟩
      · rw [hDq q hq]
        by_cases e : q = 0
        · rw [if_pos e]; right; exact ⟨by omega, 0, by omega, rfl⟩
        · rw [if_neg e]; left; rfl
      · rw [hDq q hq] at g ⊢
        by_cases e : q = 0
        · subst e; exact hV.2.1
        · rw [if_neg e] at g; exact absurd rfl g
      · rw [hcnt, hx3]; exact qu_ps
      · rw [hcnt] at hj
        obtain rfl : j = 0 := by omega
        refine ⟨0, by decide, ?_, ?_⟩
        · rw [hx3]; rfl
        · rw [hDq 0 (by decide)]; decide
      · rw [hDq q hq] at g
        by_cases e : q = 0
        · subst e
          refine ⟨0, by rw [hcnt]; decide, ?_⟩
          rw [hx3]; rfl
        · rw [if_neg e] at g; exact absurd rfl g
    have hF3 : qfr [11, 12, 13] x x3 := by
      rw [hx3]
      exact qfr_up (by decide) (qfr_up (by decide) (qfr_up (by decide) (qfr_up (by decide) g2')))
    have e55 : qf55 i 0 0 (qp_up x1 11 0 2 0) = some (1, x3) := by
      have e2 : (qp_up x1 11 0 2 0) 14 i 1 = Int32.ofNat size := e1'
      have e3 : (qp_up x1 11 0 2 0) 12 0 0 = -1 := g3 0 (by decide)
      unfold qf55
      rw [e2, qu_13T (by omega), Option.bind_some, show (0 : Int32).toNatClampNeg = 0 from rfl, e3, hx3]
      rfl
    -- the loop
    have hloop := qv_loop (fun n k (s : Int32 × qp_S) => qf54_23 n i s.1 (Int32.ofNat k) s.2) 32 (fun k s => qfr [11, 12, 13] x s.2 ∧ ((s.1 = 0 ∧ ¬ ∃ D', qk_V v size D') ∨ (s.1 = 1 ∧ qs_X v size s.2 ∧ ∀ j p h, j < k → j < qk_c (s.2 12 0) 32 → p < 32 → h ≤ 8 → s.2 13 0 j = Int32.ofNat p → s.2 12 0 p = Int32.ofNat h → qk_ok (v p) size (s.2 12 0) p h)))
      (fun r => ∃ g, r.1 = qv_b g ∧ qfr [11, 12, 13] x r.2 ∧ (g = false → ¬ ∃ D', qk_V v size D') ∧ (g = true → qs_X v size r.2 ∧ qk_V v size (r.2 12 0)))
      (by
        rintro n k ⟨a, s⟩ hk ⟨f1, f2⟩
        have tk := qv_tI k (by omega)
        dsimp only at f1 f2 ⊢
        rcases f2 with ⟨ea, hno⟩ | ⟨ea, hX, hdone⟩
        · left
          subst ea
          refine ⟨(0, s), ?_, false, rfl, f1, fun _ => hno, fun g => by cases g⟩
          unfold qf54_23
          rw [qv_g32 k hk, cond_false, qu_00T, cond_true]
          cases qm_cmp .ge (Int32.ofNat k) (s 11 0 2) <;> rfl
        · subst ea
          have hcl := qk_cle (s 12 0) 32
          have tc := qv_tI (qk_c (s 12 0) 32) (by omega)
          by_cases hkc : qk_c (s 12 0) 32 ≤ k
          · left
            refine ⟨(1, s), ?_, true, rfl, f1, (fun g => by cases g), fun _ => ⟨hX, qk_done hX.1 h0 (fun p h hp hh e => ?_)⟩⟩
            · unfold qf54_23
              rw [qv_g32 k hk, cond_false, hX.2.1, qu_geT (by omega), cond_true]; rfl
            · have e : s 12 0 p = Int32.ofNat h := e
              obtain ⟨j, j1, j2⟩ := hX.2.2.2 p (by omega) (by rw [e]; exact qv_mm h (by omega))
              exact hdone j p h (by omega) j1 (by omega) hh j2 e
          · right
            obtain ⟨p, p1, p2, p3⟩ := hX.2.2.1 k (by omega)
            obtain ⟨hps, h, hh, eh⟩ : p < size ∧ ∃ h, h ≤ 8 ∧ s 12 0 p = Int32.ofNat h := by
              rcases hX.1.2.1 p p1 with g | g
              · exact absurd g p3
              · exact g
            have e1s : s 14 i 1 = Int32.ofNat size := by rw [f1 14 (by decide)]; exact e1
            have hvs : s 17 i p = v p := by rw [f1 17 (by decide)]; exact hv p hps
            have hunf : ∀ r, qf56 i (Int32.ofNat p) s = some r → qf54_23 (n + 1) i 1 (Int32.ofNat k) s = qf54_23 n i r.1 (Int32.ofNat (k + 1)) r.2 := by
              intro r hr
              unfold qf54_23
              rw [qv_g32 k hk, cond_false, hX.2.1, qu_geF (by omega), cond_false, qu_10F, cond_false, if_pos (qv_inT k 32 hk (by decide)), qv_tN k (by omega), p2, hr, Option.bind_some, qv_s1]
              cases n <;> rfl
            rcases qs_56 hX hs e1s hps hvs hh eh with ⟨s', w1, w2, w3⟩ | ⟨s', w1, w2, w3⟩
            · exact ⟨(0, s'), hunf _ w1, qfr_t f1 w2, Or.inl ⟨rfl, w3⟩⟩
            · refine ⟨(1, s'), hunf _ w1, qfr_t f1 w2.2.1, Or.inr ⟨rfl, w2.1, fun j q h' j1 j2 q1 q2 q3 q4 => ?_⟩⟩
              obtain ⟨u1, u2, u3, u4, u5⟩ := w2
              dsimp only at j2 q3 q4 ⊢
              have hjc : j < qk_c (s 12 0) 32 := by omega
              rw [u4 j hjc] at q3
              by_cases ej : j = k
              · subst ej
                rw [p2] at q3
                have := qv_mi p q q3 (by omega) (by omega)
                subst this
                rw [u3 p p3, eh] at q4
                have := qv_mi h h' q4 (by omega) (by omega)
                subst this
                exact w3
              · obtain ⟨q', r1, r2, r3⟩ := hX.2.2.1 j hjc
                rw [q3] at r2
                have := qv_mi q q' r2 (by omega) (by omega)
                subst this
                rw [u3 q r3] at q4
                obtain ⟨o1, o2, o3, o4, o5, o6⟩ := hdone j q h' (by omega) hjc q1 q2 q3 q4
                refine ⟨o1, o2, o3, o4, fun z1 z2 => ?_, fun z1 => ?_⟩
                · have := o5 z1 z2
                  refine ⟨this.1, ?_⟩
                  rw [u3 _ (by rw [this.2]; exact qv_mm _ (by omega))]; exact this.2
                · have := o6 z1
                  rw [u3 _ (by rw [this]; exact qv_mm _ (by omega))]; exact this)
      (by
        rintro n ⟨a, s⟩ ⟨f1, f2⟩
        dsimp only at f1 f2 ⊢
        rcases f2 with ⟨ea, hno⟩ | ⟨ea, hX, hdone⟩
        · subst ea
          refine ⟨(0, s), ?_, false, rfl, f1, fun _ => hno, fun g => by cases g⟩
          unfold qf54_23
          rw [qv_e32, cond_true]; rfl
        · subst ea
          have hcl := qk_cle (s 12 0) 32
          refine ⟨(1, s), ?_, true, rfl, f1, (fun g => by cases g), fun _ => ⟨hX, qk_done hX.1 h0 (fun p h hp hh e => ?_)⟩⟩
          · unfold qf54_23
            rw [qv_e32, cond_true]; rfl
          · have e : s 12 0 p = Int32.ofNat h := e
            obtain ⟨j, j1, j2⟩ := hX.2.2.2 p (by omega) (by rw [e]; exact qv_mm h (by omega))
            exact hdone j p h (by omega) j1 (by omega) hh j2 e)
      4096 0 (1, x3) (by decide) (by decide) ⟨hF3, Or.inr ⟨rfl, hX, fun j p h hj => absurd hj (Nat.not_lt_zero _)⟩⟩
    obtain ⟨⟨ra, r⟩, hr, g, e2, f2, f3, f4⟩ := hloop
    dsimp only at hr e2 f2 f3 f4
    subst e2
    refine ⟨g, r, ?_, f2, f3, f4⟩
    unfold qf54
    rw [g1, Option.bind_some]
    dsimp only
    rw [e55, Option.bind_some]
    exact hr
