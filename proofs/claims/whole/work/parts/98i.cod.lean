/-! the reference's look at a code, whole -/
/-- what holds within a round: so many were down when it began; if none came, all before k are done -/
def qcd_I (y0 : qp_S) (i size c0 k : Nat) (y : qp_S) : Prop := qk_I (qj_v y0 i) size (y 60 0) ∧ qfr [60] y0 y ∧ c0 ≤ qk_c (y 60 0) 32 ∧ (qk_c (y 60 0) 32 = c0 → ∀ p h, p < k → h ≤ 8 → y 60 0 p = Int32.ofNat h → qk_ok (qj_v y0 i p) size (y 60 0) p h)
theorem qcd_48 {y0 : qp_S} {i size c0 : Nat} (hi : i < 8) (hs : size ≤ 32) (e1 : y0 33 0 i = Int32.ofNat size) (L : Int32 → Int32 → qp_S → Option (Int32 × qp_S)) (a : Int32) : ∀ d k n y, k + d = size → d < n → qcd_I y0 i size c0 k y → (∃ y', qf131_48 L n (Int32.ofNat i) a (Int32.ofNat k) y = some (0, y') ∧ qfr [60] y0 y' ∧ ¬ ∃ D', qk_V (qj_v y0 i) size D') ∨ ∃ y', qf131_48 L n (Int32.ofNat i) a (Int32.ofNat k) y = L (Int32.ofNat i) (a + 1) y' ∧ qcd_I y0 i size c0 size y' := by
  have l0 : (0:Int32).toInt = 0 := rfl; have l1 : (1:Int32).toInt = 1 := rfl; have lm : (-1:Int32).toInt = -1 := rfl; have l3 : (3:Int32).toInt = 3 := rfl; have l4 : (4:Int32).toInt = 4 := rfl; have l5 : (5:Int32).toInt = 5 := rfl; have l6 : (6:Int32).toInt = 6 := rfl; have l7 : (7:Int32).toInt = 7 := rfl; have l8 : (8:Int32).toInt = 8 := rfl; have l15 : (15:Int32).toInt = 15 := rfl; have l16 : (16:Int32).toInt = 16 := rfl; have l32 : (32:Int32).toInt = 32 := rfl
  have tz := qv_tI size (by omega)
  have hin8 : qm_inb (Int32.ofNat i) 8 = true := qv_inT i 8 hi (by decide)
  intro d
  induction d with
  | zero =>
    intro k n y h1 h2 hI
    obtain ⟨n, rfl⟩ : ∃ z, n = z + 1 := ⟨n - 1, by omega⟩
    obtain rfl : k = size := by omega
    right
    refine ⟨y, ?_, hI⟩
    have e1' : y 33 0 i = Int32.ofNat k := by rw [hI.2.1 33 (by decide)]; exact e1
    unfold qf131_48
    rw [if_pos hin8, qv_tN i (by omega), e1', qu_geT (Int.le_refl _), cond_true]
  | succ d ih =>
    intro k n y h1 h2 hI
    obtain ⟨n, rfl⟩ : ∃ z, n = z + 1 := ⟨n - 1, by omega⟩
    have tk := qv_tI k (by omega)
    have hin : qm_inb (Int32.ofNat k) 32 = true := qv_inT k 32 (by omega) (by decide)
    obtain ⟨i1, i2, i3, i4⟩ := hI
    have e1' : y 33 0 i = Int32.ofNat size := by rw [i2 33 (by decide)]; exact e1
    have evv : qj_v y i = qj_v y0 i := by unfold qj_v; rw [i2 32 (by decide)]
    unfold qf131_48
    rw [if_pos hin8, qv_tN i (by omega), e1', qu_geF (by omega), cond_false, if_pos hin, qv_tN k (by omega), qv_s1]
    rcases i1.2.1 k (by omega) with g | ⟨g, h, hh, eh⟩
    · rw [g, show qm_cmp .lt (-1 : Int32) 0 = true by decide, cond_true]
      refine ih (k + 1) n y (by omega) (by omega) ⟨i1, i2, i3, fun hc p h hp hh e => ?_⟩
      by_cases ep : p = k
      · subst ep; rw [g] at e; exact absurd e.symm (qv_mm h (by omega))
      · exact i4 hc p h (by omega) hh e
    · have th := qv_tI h (by omega)
      rw [eh, qu_ltF (by omega), cond_false]
      rcases qcd_133 hi (by rw [evv]; exact i1) hs e1' (by omega) hh eh with ⟨y', w1, w2, w3⟩ | ⟨y', w1, w2, w3⟩
      · left
        rw [evv] at w3
        refine ⟨y', ?_, qfr_t i2 w2, w3⟩
        rw [w1, Option.bind_some]; rfl
      · rw [evv] at w2 w3
        rw [w1, Option.bind_some]
        dsimp only
        rw [qu_n10, cond_true]
        obtain ⟨u1, u2, u3, u4⟩ := w2
        have hge : qk_c (y 60 0) 32 ≤ qk_c (y' 60 0) 32 := by
          rcases u4 with g | g
          · rw [g]; omega
          · omega
        refine ih (k + 1) n y' (by omega) (by omega) ⟨u1, qfr_t i2 u2, by omega, fun hc p h' hp hh' e => ?_⟩
        have hsame : y' 60 0 = y 60 0 := by
          rcases u4 with g | g
          · exact g
          · omega
        rw [hsame] at e w3 hc ⊢
        by_cases ep : p = k
        · subst ep
          rw [eh] at e
          have := qv_mi h h' e (by omega) (by omega)
          subst this
          exact w3
        · exact i4 hc p h' (by omega) hh' e
theorem qcd_40 {y0 : qp_S} {i size : Nat} (hi : i < 8) (hs : size ≤ 32) (h0 : 0 < size) (e1 : y0 33 0 i = Int32.ofNat size) : ∀ d r n y, r + d = 32 → d < n → qk_I (qj_v y0 i) size (y 60 0) → qfr [60] y0 y → (qk_V (qj_v y0 i) size (y 60 0) ∨ r + 1 ≤ qk_c (y 60 0) 32) → (∃ y', qf131_40 n (Int32.ofNat i) (Int32.ofNat r) y = some (0, y') ∧ qfr [60] y0 y' ∧ ¬ ∃ D', qk_V (qj_v y0 i) size D') ∨ ∃ y', qf131_40 n (Int32.ofNat i) (Int32.ofNat r) y = some (1, y') ∧ qfr [60] y0 y' ∧ qk_I (qj_v y0 i) size (y' 60 0) ∧ qk_V (qj_v y0 i) size (y' 60 0) := by
  intro d
  induction d with
  | zero =>
    intro r n y h1 h2 hI hF hV
    obtain ⟨n, rfl⟩ : ∃ z, n = z + 1 := ⟨n - 1, by omega⟩
    obtain rfl : r = 32 := by omega
    right
    refine ⟨y, ?_, hF, hI, ?_⟩
    · unfold qf131_40
      rw [qv_e32, cond_true]
    · rcases hV with g | g
      · exact g
      · have := qk_cle (y 60 0) 32; omega
  | succ d ih =>
    intro r n y h1 h2 hI hF hV
    obtain ⟨n, rfl⟩ : ∃ z, n = z + 1 := ⟨n - 1, by omega⟩
    unfold qf131_40
    rw [qv_g32 r (by omega), cond_false]
    have hstart : qcd_I y0 i size (qk_c (y 60 0) 32) 0 y := ⟨hI, hF, Nat.le_refl _, fun _ p h hp => absurd hp (Nat.not_lt_zero _)⟩
    rcases qcd_48 hi hs e1 (qf131_40 n) (Int32.ofNat r) size 0 4096 y (by omega) (by omega) hstart with ⟨y', w1, w2, w3⟩ | ⟨y', w1, w2⟩
    · left
      exact ⟨y', w1, w2, w3⟩
    · obtain ⟨u1, u2, u3, u4⟩ := w2
      have hnext : qk_V (qj_v y0 i) size (y' 60 0) ∨ r + 1 + 1 ≤ qk_c (y' 60 0) 32 := by
        by_cases hc : qk_c (y' 60 0) 32 = qk_c (y 60 0) 32
        · left
          exact qk_done u1 h0 (fun p h hp hh e => u4 hc p h hp hh e)
        · right
          rcases hV with g | g
          · have := qk_cmono (D := y' 60 0) (D' := y 60 0) 32 (fun p hp hne => by rw [u1.2.2 _ g p hp hne]; exact hne)
            omega
          · omega
      rw [show Int32.ofNat r + 1 = Int32.ofNat (r + 1) from qv_s1 r] at w1
      rcases ih (r + 1) n y' (by omega) (by omega) u1 u2 hnext with ⟨y'', v1, v2, v3⟩ | ⟨y'', v1, v2, v3, v4⟩
      · left
        exact ⟨y'', w1.trans v1, v2, v3⟩
      · right
        exact ⟨y'', w1.trans v1, v2, v3, v4⟩
theorem qcd_131 {y : qp_S} {i size : Nat} (hi : i < 8) (hs : size ≤ 32) (e1 : y 33 0 i = Int32.ofNat size) : ∃ g y', qf131 (Int32.ofNat i) y = some (qv_b g, y') ∧ qfr [60] y y' ∧ (g = false → ¬ ∃ D', qk_V (qj_v y i) size D') ∧ (g = true → qk_I (qj_v y i) size (y' 60 0) ∧ qk_V (qj_v y i) size (y' 60 0)) := by
  have l0 : (0:Int32).toInt = 0 := rfl; have l1 : (1:Int32).toInt = 1 := rfl; have lm : (-1:Int32).toInt = -1 := rfl; have l3 : (3:Int32).toInt = 3 := rfl; have l4 : (4:Int32).toInt = 4 := rfl; have l5 : (5:Int32).toInt = 5 := rfl; have l6 : (6:Int32).toInt = 6 := rfl; have l7 : (7:Int32).toInt = 7 := rfl; have l8 : (8:Int32).toInt = 8 := rfl; have l15 : (15:Int32).toInt = 15 := rfl; have l16 : (16:Int32).toInt = 16 := rfl; have l32 : (32:Int32).toInt = 32 := rfl
  have tz := qv_tI size (by omega)
  have hin8 : qm_inb (Int32.ofNat i) 8 = true := qv_inT i 8 hi (by decide)
  obtain ⟨y1, m, e2, f1, f2⟩ := qv_loop5 (fun n k s => qf131_2 n (Int32.ofNat i) (Int32.ofNat k) s) 32 (fun k s => qfr [60] y s ∧ ∀ p, p < k → s 60 0 p = -1)
    (by
      rintro k s hk ⟨h1, h2⟩
      refine ⟨qp_up s 60 0 k (-1), fun n => ?_, qfr_up (by decide) h1, fun p hp => ?_⟩
      · unfold qf131_2
        rw [qv_g32 k hk, cond_false, if_pos (qv_inT k 32 hk (by decide)), qv_tN k (by omega), qv_s1]
        cases n <;> rfl
      · by_cases e : p = k
        · subst e; exact qu_ps
        · rw [qu_pj e]; exact h2 p (by omega)) 4096 y (by decide) ⟨qfr_r, fun p hp => absurd hp (Nat.not_lt_zero _)⟩
  have e1' : y1 33 0 i = Int32.ofNat size := by rw [f1 33 (by decide)]; exact e1
  have hq : qf131 (Int32.ofNat i) y = ((qf132 (0 : Int32) (0 : Int32) (Int32.ofNat size) y1).bind fun q1 => (bif qm_cmp .ne (q1.1) (0 : Int32) then qf131_40 4096 (Int32.ofNat i) (0 : Int32) q1.2 else some ((0 : Int32), q1.2))) := by
    unfold qf131
    show qf131_2 4096 (Int32.ofNat i) (Int32.ofNat 0) y = _
    rw [e2]
    unfold qf131_2
    rw [qv_e32, cond_true, if_pos hin8, qv_tN i (by omega), e1']
  rw [hq]
  rcases Nat.eq_zero_or_pos size with h0 | h0
  · subst h0
    refine ⟨false, y1, ?_, f1, fun _ => ?_, fun g => by cases g⟩
    · rfl
    · rintro ⟨D', hV⟩
      exact absurd hV.1 (Nat.lt_irrefl 0)
  · have e132 : qf132 0 0 (Int32.ofNat size) y1 = some (1, qp_up y1 60 0 0 0) := by
      have e3 : y1 60 0 0 = -1 := f2 0 (by decide)
      unfold qf132
      rw [qu_geF (by omega), cond_false, show (0 : Int32).toNatClampNeg = 0 from rfl, e3]
      rfl
    have hD : (qp_up y1 60 0 0 0) 60 0 = qj_up (y1 60 0) 0 0 := by
      funext q
      unfold qj_up
      by_cases e : q = 0
      · subst e; rw [if_pos rfl]; exact qu_ps
      · rw [if_neg e, qu_pj e]
    have hDq : ∀ q, q < 32 → (qp_up y1 60 0 0 0) 60 0 q = if q = 0 then 0 else -1 := by
      intro q hq
      rw [hD]; unfold qj_up
      by_cases e : q = 0
      · rw [if_pos e, if_pos e]
      · rw [if_neg e, if_neg e, f2 q hq]
    have hcnt : qk_c ((qp_up y1 60 0 0 0) 60 0) 32 = 1 := by
      rw [hD, qk_cup (f2 0 (by decide)) (by decide), qk_c0 32 f2]; rfl
    have hI : qk_I (qj_v y i) size ((qp_up y1 60 0 0 0) 60 0) := by
      refine ⟨hDq 0 (by decide), fun q hq => ?_, fun D' hV q hq g => ?_⟩
      · rw [hDq q hq]
        by_cases e : q = 0
        · rw [if_pos e]; right; exact ⟨by omega, 0, by omega, rfl⟩
        · rw [if_neg e]; left; rfl
      · rw [hDq q hq] at g ⊢
        by_cases e : q = 0
        · subst e; exact hV.2.1
        · rw [if_neg e] at g; exact absurd rfl g
    rw [e132, Option.bind_some]
    dsimp only
    rw [qu_n10, cond_true]
    rcases qcd_40 hi hs h0 e1 32 0 4096 (qp_up y1 60 0 0 0) (by decide) (by decide) hI (qfr_up (by decide) f1) (Or.inr (by rw [hcnt]; decide)) with ⟨y', w1, w2, w3⟩ | ⟨y', w1, w2, w3, w4⟩
    · refine ⟨false, y', ?_, w2, fun _ => w3, fun g => by cases g⟩
      show qf131_40 4096 (Int32.ofNat i) (Int32.ofNat 0) (qp_up y1 60 0 0 0) = _
      exact w1
    · refine ⟨true, y', ?_, w2, (fun g => by cases g), fun _ => ⟨w3, w4⟩⟩
      show qf131_40 4096 (Int32.ofNat i) (Int32.ofNat 0) (qp_up y1 60 0 0 0) = _
      exact w1
