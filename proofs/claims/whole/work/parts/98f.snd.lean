/-! the class's look at a code -/
def qk_n0 (w : Nat) (n : Int32) : Prop := w ≤ 16 ∧ (w = 2 ∨ w = 3 → 0 ≤ n.toInt ∧ n.toInt < 6) ∧ (w = 15 ∨ w = 16 → 0 ≤ n.toInt ∧ n.toInt < 4) ∧ (w = 0 ∨ (4 ≤ w ∧ w ≤ 9) ∨ (12 ≤ w ∧ w ≤ 14) → n = 0)
theorem qs_60 {w : Nat} (hw : w ≤ 63) (n : Int32) (s : qp_S) : (qk_n0 w n ∧ qf60 (Int32.ofNat w) n s = some 1) ∨ (¬ qk_n0 w n ∧ qf60 (Int32.ofNat w) n s = some 0) := by
  have l0 : (0:Int32).toInt = 0 := rfl; have l1 : (1:Int32).toInt = 1 := rfl; have lm : (-1:Int32).toInt = -1 := rfl; have l3 : (3:Int32).toInt = 3 := rfl; have l4 : (4:Int32).toInt = 4 := rfl; have l5 : (5:Int32).toInt = 5 := rfl; have l6 : (6:Int32).toInt = 6 := rfl; have l7 : (7:Int32).toInt = 7 := rfl; have l8 : (8:Int32).toInt = 8 := rfl; have l15 : (15:Int32).toInt = 15 := rfl; have l16 : (16:Int32).toInt = 16 := rfl; have l32 : (32:Int32).toInt = 32 := rfl; have l17 : (17:Int32).toInt = 17 := rfl
  have tw := qv_tI w (by omega)
  have hz : ∀ a : Int32, 0 ≤ a.toInt ∧ a.toInt < 17 → ((qf13 a (17 : Int32) s).bind fun q1 => (bif qm_cmp .eq q1 (0 : Int32) then some (0 : Int32) else (bif qm_cmp .ne n (0 : Int32) then some (0 : Int32) else some (1 : Int32)))) = some (qv_b (decide (n = 0))) := by
    intro a ha
    rw [qu_13T (by omega), Option.bind_some, qu_10F, cond_false, qv_ne]
    by_cases e : n = 0
    · rw [decide_eq_true e, decide_eq_false (fun g => g e)]; rfl
    · rw [decide_eq_false e, decide_eq_true e]; rfl
  have hi : ∀ b : Int32, ((qf13 n b s).bind fun q2 => (if (q2 = 0 ∨ q2 = 1) then some q2 else none)) = some (qv_b (decide (0 ≤ n.toInt ∧ n.toInt < b.toInt))) := by
    intro b
    rw [qv13, Option.bind_some]
    cases decide (0 ≤ n.toInt ∧ n.toInt < b.toInt) <;> rfl
  have hfin : ∀ (P : Prop) [Decidable P], (qk_n0 w n ↔ P) → qf60 (Int32.ofNat w) n s = some (qv_b (decide P)) → (qk_n0 w n ∧ qf60 (Int32.ofNat w) n s = some 1) ∨ (¬ qk_n0 w n ∧ qf60 (Int32.ofNat w) n s = some 0) := by
    intro P _ h1 h2
    by_cases e : P
    · left; rw [decide_eq_true e] at h2; exact ⟨h1.mpr e, h2⟩
    · right; rw [decide_eq_false e] at h2; exact ⟨fun g => e (h1.mp g), h2⟩
  have hc : w = 0 ∨ w = 1 ∨ w = 2 ∨ w = 3 ∨ w = 4 ∨ w = 5 ∨ w = 6 ∨ w = 7 ∨ w = 8 ∨ w = 9 ∨ w = 10 ∨ w = 11 ∨ w = 12 ∨ w = 13 ∨ w = 14 ∨ w = 15 ∨ w = 16 ∨ 16 < w := by omega
  rcases hc with e | e | e | e | e | e | e | e | e | e | e | e | e | e | e | e | e | e
  · subst e; exact hfin (n = 0) (by simp [qk_n0]) (hz 0 (by decide))
  · subst e; exact hfin True (by simp [qk_n0]) rfl
  · subst e; exact hfin (0 ≤ n.toInt ∧ n.toInt < 6) (by simp [qk_n0]) (hi 6)
  · subst e; exact hfin (0 ≤ n.toInt ∧ n.toInt < 6) (by simp [qk_n0]) (hi 6)
  · subst e; exact hfin (n = 0) (by simp [qk_n0]) (hz 4 (by decide))
  · subst e; exact hfin (n = 0) (by simp [qk_n0]) (hz 5 (by decide))
  · subst e; exact hfin (n = 0) (by simp [qk_n0]) (hz 6 (by decide))
  · subst e; exact hfin (n = 0) (by simp [qk_n0]) (hz 7 (by decide))
  · subst e; exact hfin (n = 0) (by simp [qk_n0]) (hz 8 (by decide))
  · subst e; exact hfin (n = 0) (by simp [qk_n0]) (hz 9 (by decide))
  · subst e; exact hfin True (by simp [qk_n0]) rfl
  · subst e; exact hfin True (by simp [qk_n0]) rfl
  · subst e; exact hfin (n = 0) (by simp [qk_n0]) (hz 12 (by decide))
  · subst e; exact hfin (n = 0) (by simp [qk_n0]) (hz 13 (by decide))
  · subst e; exact hfin (n = 0) (by simp [qk_n0]) (hz 14 (by decide))
  · subst e; exact hfin (0 ≤ n.toInt ∧ n.toInt < 4) (by simp [qk_n0]) (hi 4)
  · subst e; exact hfin (0 ≤ n.toInt ∧ n.toInt < 4) (by simp [qk_n0]) (hi 4)
  · right
    refine ⟨fun g => by have := g.1; omega, ?_⟩
    unfold qf60
    rw [decide_eq_true (by omega), cond_true, qu_13F (by omega)]
    rfl
theorem qs_61 {w : Nat} (hw : w ≤ 16) (s : qp_S) : qf61 (Int32.ofNat w) s = some (Int32.ofNat (qj_tk w)) ∧ qf62 (Int32.ofNat w) s = some (Int32.ofNat (qj_lv w)) := by
  have hc : w = 0 ∨ w = 1 ∨ w = 2 ∨ w = 3 ∨ w = 4 ∨ w = 5 ∨ w = 6 ∨ w = 7 ∨ w = 8 ∨ w = 9 ∨ w = 10 ∨ w = 11 ∨ w = 12 ∨ w = 13 ∨ w = 14 ∨ w = 15 ∨ w = 16 := by omega
  rcases hc with e | e | e | e | e | e | e | e | e | e | e | e | e | e | e | e | e <;> subst e <;> exact ⟨rfl, rfl⟩
theorem qj_tk2 (w : Nat) : qj_tk w ≤ 2 := by
  unfold qj_tk
  by_cases a : w = 3 ∨ w = 11 ∨ w = 12 ∨ w = 14 ∨ w = 16
  · rw [if_pos a]; omega
  · rw [if_neg a]
    by_cases b : (4 ≤ w ∧ w ≤ 9) ∨ w = 13
    · rw [if_pos b]; omega
    · rw [if_neg b]; omega
theorem qj_lv2 (w : Nat) : qj_lv w ≤ 2 := by
  unfold qj_lv
  by_cases a : w = 1 ∨ w = 2 ∨ w = 15 ∨ (4 ≤ w ∧ w ≤ 9)
  · rw [if_pos a]; omega
  · rw [if_neg a]
    by_cases b : w = 12 ∨ w = 13
    · rw [if_pos b]; omega
    · rw [if_neg b]; omega
/-- what the class's look keeps: heights, and the row of words that were reached -/
def qs_X (v : Nat → Int32) (size : Nat) (x : qp_S) : Prop := qk_I v size (x 12 0) ∧ x 11 0 2 = Int32.ofNat (qk_c (x 12 0) 32) ∧ (∀ j, j < qk_c (x 12 0) 32 → ∃ p, p < 32 ∧ x 13 0 j = Int32.ofNat p ∧ x 12 0 p ≠ -1) ∧ ∀ p, p < 32 → x 12 0 p ≠ -1 → ∃ j, j < qk_c (x 12 0) 32 ∧ x 13 0 j = Int32.ofNat p
/-- how it goes on -/
def qs_G (v : Nat → Int32) (size : Nat) (x x' : qp_S) : Prop := qs_X v size x' ∧ qfr [11, 12, 13] x x' ∧ (∀ q, x 12 0 q ≠ -1 → x' 12 0 q = x 12 0 q) ∧ (∀ j, j < qk_c (x 12 0) 32 → x' 13 0 j = x 13 0 j) ∧ qk_c (x 12 0) 32 ≤ qk_c (x' 12 0) 32
theorem qs_Gt {v : Nat → Int32} {size : Nat} {x x' x'' : qp_S} (h : qs_G v size x x') (h' : qs_G v size x' x'') : qs_G v size x x'' := by
  obtain ⟨a1, a2, a3, a4, a5⟩ := h
  obtain ⟨b1, b2, b3, b4, b5⟩ := h'
  refine ⟨b1, qfr_t a2 b2, fun q hq => ?_, fun j hj => ?_, by omega⟩
  · rw [b3 q (by rw [a3 q hq]; exact hq)]; exact a3 q hq
  · rw [b4 j (by omega)]; exact a4 j hj
theorem qs_55 {v : Nat → Int32} {size i h : Nat} {x : qp_S} {a : Int32} (hX : qs_X v size x) (hs : size ≤ 32) (hh : h ≤ 12) (e1 : x 14 i 1 = Int32.ofNat size) (hf : ∀ D', qk_V v size D' → (0 ≤ a.toInt ∧ a.toInt < size) ∧ h ≤ 8 ∧ D' (qN a) = Int32.ofNat h) : (qf55 i a (Int32.ofNat h) x = some (0, x) ∧ ¬ ∃ D', qk_V v size D') ∨ ∃ x', qf55 i a (Int32.ofNat h) x = some (1, x') ∧ qs_G v size x x' ∧ (0 ≤ a.toInt ∧ a.toInt < size) ∧ h ≤ 8 ∧ x' 12 0 (qN a) = Int32.ofNat h := by
  have l0 : (0:Int32).toInt = 0 := rfl; have l1 : (1:Int32).toInt = 1 := rfl; have lm : (-1:Int32).toInt = -1 := rfl; have l3 : (3:Int32).toInt = 3 := rfl; have l4 : (4:Int32).toInt = 4 := rfl; have l5 : (5:Int32).toInt = 5 := rfl; have l6 : (6:Int32).toInt = 6 := rfl; have l7 : (7:Int32).toInt = 7 := rfl; have l8 : (8:Int32).toInt = 8 := rfl; have l15 : (15:Int32).toInt = 15 := rfl; have l16 : (16:Int32).toInt = 16 := rfl; have l32 : (32:Int32).toInt = 32 := rfl
  have tz := qv_tI size (by omega)
  have th := qv_tI h (by omega)
  by_cases c1 : 0 ≤ a.toInt ∧ a.toInt < size
  · obtain ⟨p, hp, rfl⟩ := qv_ex (N := size) c1.1 c1.2
    have tp := qv_tI p (by omega)
    have eN : qN (Int32.ofNat p) = p := qv_tN p (by omega)
    rw [eN] at hf ⊢
    by_cases c2 : h ≤ 8
    · obtain ⟨X1, X2, X3, X4⟩ := hX
      by_cases c3 : x 12 0 p = -1
      · right
        have hcup := qk_cup (D := x 12 0) (p := p) c3 (qv_mm h (by omega)) 32
        rw [if_pos (by omega)] at hcup
        have hcl := qk_cle (qj_up (x 12 0) p (Int32.ofNat h)) 32
        obtain ⟨cn, hcn⟩ : ∃ cn, cn = qk_c (x 12 0) 32 := ⟨_, rfl⟩
        rw [← hcn] at X2 X3 X4 hcup
        obtain ⟨p1, p2, p3⟩ := qk_put X1 hp hs c2 (Or.inl c3) (fun D' hV => (hf D' hV).2.2)
        have hD : (qp_up (qp_up (qp_up x 12 0 p (Int32.ofNat h)) 13 0 cn (Int32.ofNat p)) 11 0 2 (Int32.ofNat (cn + 1))) 12 0 = qj_up (x 12 0) p (Int32.ofNat h) := by
          funext q
          show qp_up x 12 0 p (Int32.ofNat h) 12 0 q = _
          unfold qj_up
          by_cases e : q = p
          · subst e; rw [if_pos rfl]; exact qu_ps
          · rw [if_neg e]; exact qu_pj e
        refine ⟨qp_up (qp_up (qp_up x 12 0 p (Int32.ofNat h)) 13 0 cn (Int32.ofNat p)) 11 0 2 (Int32.ofNat (cn + 1)), ?_, ⟨⟨?_, ?_, ?_, ?_⟩, qfr_up (by decide) (qfr_up (by decide) (qfr_up (by decide) qfr_r)), ?_, ?_, ?_⟩, c1, c2, ?_⟩
        · have e5 : qm_cmp .eq (-1 : Int32) (-1) = true := by decide
          have e6 : (qp_up x 12 0 p (Int32.ofNat h)) 11 0 2 = Int32.ofNat cn := X2
          have e7 : (qp_up (qp_up x 12 0 p (Int32.ofNat h)) 13 0 cn (Int32.ofNat p)) 11 0 2 = Int32.ofNat cn := X2
          simp (disch := first | omega | assumption | decide) only [qf55, e1, qu_ltT, qu_ltF, qu_gtT, qu_gtF, qu_geT, qu_geF, qu_leT, qu_leF, qu_eqT, qu_eqF, qu_neT, qu_neF, qu_inT, qu_24T, qu_24F, qu_116T, qu_116F, qu_13T, qu_13F, qu_10F, qu_00T, qu_n10, qu_n00, Option.bind_some, qv_ct, qv_cf, if_true, qv_tN, qv_c6, qv_c4, qv_c8, qv_c32, qv_d4, qv_d16, qv_f4, qv_a1, qv_a2, qv_a3, qv_add, qv_inT, c3, e5, e6, e7]
        · rw [hD]; exact p1
        · rw [hD, hcup]; rfl
        · rw [hD, hcup]
          intro j hj
          by_cases e : j = cn
          · subst e
            refine ⟨p, by omega, ?_, ?_⟩
            · show qp_up (qp_up x 12 0 p (Int32.ofNat h)) 13 0 j (Int32.ofNat p) 13 0 j = _
              exact qu_ps
            · unfold qj_up; rw [if_pos rfl]; exact qv_mm h (by omega)
          · obtain ⟨q, g1, g2, g3⟩ := X3 j (by omega)
            refine ⟨q, g1, ?_, ?_⟩
            · show qp_up (qp_up x 12 0 p (Int32.ofNat h)) 13 0 cn (Int32.ofNat p) 13 0 j = _
              rw [qu_pj e]; exact g2
            · rw [p3 q g3]; exact g3
        · rw [hD, hcup]
          intro q hq g
          by_cases e : q = p
          · subst e
            exact ⟨cn, by omega, qu_ps⟩
          · have g' : x 12 0 q ≠ -1 := by unfold qj_up at g; rw [if_neg e] at g; exact g
            obtain ⟨j, j1, j2⟩ := X4 q hq g'
            refine ⟨j, by omega, ?_⟩
            show qp_up (qp_up x 12 0 p (Int32.ofNat h)) 13 0 cn (Int32.ofNat p) 13 0 j = _
            rw [qu_pj (by omega)]; exact j2
        · intro q hq; rw [hD]; exact p3 q hq
        · intro j hj
          show qp_up (qp_up x 12 0 p (Int32.ofNat h)) 13 0 cn (Int32.ofNat p) 13 0 j = _
          rw [qu_pj (by omega)]; rfl
        · rw [hD, hcup]; omega
        · rw [hD]; unfold qj_up; rw [if_pos rfl]
      · by_cases c4 : x 12 0 p = Int32.ofNat h
        · right
          refine ⟨x, ?_, ⟨⟨X1, X2, X3, X4⟩, qfr_r, fun _ _ => rfl, fun _ _ => rfl, Nat.le_refl _⟩, c1, c2, c4⟩
          have e5 : qm_cmp .eq (Int32.ofNat h) (-1) = false := by rw [qv_eq]; exact decide_eq_false (qv_mm h (by omega))
          have e6 : qm_cmp .ne (Int32.ofNat h) (Int32.ofNat h) = false := by rw [qv_ne]; exact decide_eq_false (fun g => g rfl)
          simp (disch := first | omega | assumption | decide) only [qf55, e1, qu_ltT, qu_ltF, qu_gtT, qu_gtF, qu_geT, qu_geF, qu_leT, qu_leF, qu_eqT, qu_eqF, qu_neT, qu_neF, qu_inT, qu_24T, qu_24F, qu_116T, qu_116F, qu_13T, qu_13F, qu_10F, qu_00T, qu_n10, qu_n00, Option.bind_some, qv_ct, qv_cf, if_true, qv_tN, qv_c6, qv_c4, qv_c8, qv_c32, qv_d4, qv_d16, qv_f4, qv_a1, qv_a2, qv_a3, qv_add, qv_inT, c4, e5, e6]
        · left
          refine ⟨?_, fun ⟨D', hV⟩ => ?_⟩
          · have e5 : qm_cmp .eq (x 12 0 p) (-1) = false := by rw [qv_eq]; exact decide_eq_false c3
            have e6 : qm_cmp .ne (x 12 0 p) (Int32.ofNat h) = true := by rw [qv_ne]; exact decide_eq_true c4
            simp (disch := first | omega | assumption | decide) only [qf55, e1, qu_ltT, qu_ltF, qu_gtT, qu_gtF, qu_geT, qu_geF, qu_leT, qu_leF, qu_eqT, qu_eqF, qu_neT, qu_neF, qu_inT, qu_24T, qu_24F, qu_116T, qu_116F, qu_13T, qu_13F, qu_10F, qu_00T, qu_n10, qu_n00, Option.bind_some, qv_ct, qv_cf, if_true, qv_tN, qv_c6, qv_c4, qv_c8, qv_c32, qv_d4, qv_d16, qv_f4, qv_a1, qv_a2, qv_a3, qv_add, qv_inT, e5, e6]
          · have g1 := X1.2.2 D' hV p (by omega) c3
            exact c4 (g1.symm.trans (hf D' hV).2.2)
    · left
      refine ⟨?_, fun ⟨D', hV⟩ => c2 (hf D' hV).2.1⟩
      simp (disch := first | omega | assumption | decide) only [qf55, e1, qu_ltT, qu_ltF, qu_gtT, qu_gtF, qu_geT, qu_geF, qu_leT, qu_leF, qu_eqT, qu_eqF, qu_neT, qu_neF, qu_inT, qu_24T, qu_24F, qu_116T, qu_116F, qu_13T, qu_13F, qu_10F, qu_00T, qu_n10, qu_n00, Option.bind_some, qv_ct, qv_cf, if_true, qv_tN, qv_c6, qv_c4, qv_c8, qv_c32, qv_d4, qv_d16, qv_f4, qv_a1, qv_a2, qv_a3, qv_add, qv_inT]
  · left
    refine ⟨?_, fun ⟨D', hV⟩ => c1 (hf D' hV).1⟩
    simp (disch := first | omega | assumption | decide) only [qf55, e1, qu_ltT, qu_ltF, qu_gtT, qu_gtF, qu_geT, qu_geF, qu_leT, qu_leF, qu_eqT, qu_eqF, qu_neT, qu_neF, qu_inT, qu_24T, qu_24F, qu_116T, qu_116F, qu_13T, qu_13F, qu_10F, qu_00T, qu_n10, qu_n00, Option.bind_some, qv_ct, qv_cf, if_true, qv_tN, qv_c6, qv_c4, qv_c8, qv_c32, qv_d4, qv_d16, qv_f4, qv_a1, qv_a2, qv_a3, qv_add, qv_inT]
theorem qs_56 {v : Nat → Int32} {size i p h : Nat} {x : qp_S} (hX : qs_X v size x) (hs : size ≤ 32) (e1 : x 14 i 1 = Int32.ofNat size) (hp : p < size) (hv : x 17 i p = v p) (hh : h ≤ 8) (eD : x 12 0 p = Int32.ofNat h) : (∃ x', qf56 i (Int32.ofNat p) x = some (0, x') ∧ qfr [11, 12, 13] x x' ∧ ¬ ∃ D', qk_V v size D') ∨ ∃ x', qf56 i (Int32.ofNat p) x = some (1, x') ∧ qs_G v size x x' ∧ qk_ok (v p) size (x' 12 0) p h := by
  have l0 : (0:Int32).toInt = 0 := rfl; have l1 : (1:Int32).toInt = 1 := rfl; have lm : (-1:Int32).toInt = -1 := rfl; have l3 : (3:Int32).toInt = 3 := rfl; have l4 : (4:Int32).toInt = 4 := rfl; have l5 : (5:Int32).toInt = 5 := rfl; have l6 : (6:Int32).toInt = 6 := rfl; have l7 : (7:Int32).toInt = 7 := rfl; have l8 : (8:Int32).toInt = 8 := rfl; have l15 : (15:Int32).toInt = 15 := rfl; have l16 : (16:Int32).toInt = 16 := rfl; have l32 : (32:Int32).toInt = 32 := rfl
  have tz := qv_tI size (by omega)
  have tp := qv_tI p (by omega)
  have th := qv_tI h (by omega)
  have hI := hX.1
  have hsay : ∀ D', qk_V v size D' → qk_ok (v p) size D' p h := fun D' hV => qk_say hI hs hV (by omega) hh eD
  obtain ⟨ew, hw63⟩ := qw_w (v p)
  have e57 : qf57 i (Int32.ofNat p) x = some (v p) := by
    simp (disch := first | omega | assumption | decide) only [qf57, e1, qu_ltT, qu_ltF, qu_gtT, qu_gtF, qu_geT, qu_geF, qu_leT, qu_leF, qu_eqT, qu_eqF, qu_neT, qu_neF, qu_inT, qu_24T, qu_24F, qu_116T, qu_116F, qu_13T, qu_13F, qu_10F, qu_00T, qu_n10, qu_n00, Option.bind_some, qv_ct, qv_cf, if_true, qv_tN, qv_c6, qv_c4, qv_c8, qv_c32, qv_d4, qv_d16, qv_f4, qv_a1, qv_a2, qv_a3, qv_add, qv_inT]
    rw [hv]
  have en : ∀ s, qf59 (v p) s = some (qj_n (v p)) := fun s => rfl
  have ew2 : ∀ s, qf58 (v p) s = some (Int32.ofNat (qj_w (v p))) := fun s => by rw [← ew]; rfl
  have hin : qm_inb (Int32.ofNat p) 32 = true := qv_inT p 32 (by omega) (by decide)
  unfold qf56
  rw [e57, Option.bind_some, ew2, Option.bind_some, Option.bind_some, en, Option.bind_some]
  rcases qs_60 hw63 (qj_n (v p)) x with ⟨hn0, e60⟩ | ⟨hn0, e60⟩
  · obtain ⟨w16, n1, n2, n3⟩ := hn0
    obtain ⟨e61, e62⟩ := qs_61 w16 x
    have hq1 := qj_tk2 (qj_w (v p))
    have hq2 := qj_lv2 (qj_w (v p))
    have ttk := qv_tI (qj_tk (qj_w (v p))) (by omega)
    rw [e60, Option.bind_some, qu_10F, cond_false, if_pos hin, e61, Option.bind_some, qv_tN p (by omega), eD]
    by_cases htk : qj_tk (qj_w (v p)) ≤ h
    · have eh : Int32.ofNat h - Int32.ofNat (qj_tk (qj_w (v p))) + Int32.ofNat (qj_lv (qj_w (v p))) = Int32.ofNat (qk_h (qj_w (v p)) h) := by
        rw [qv_sub _ _ htk, qv_add]; rfl
      have hk12 : qk_h (qj_w (v p)) h ≤ 12 := by unfold qk_h; omega
      rw [qu_geT (by omega), cond_true, if_pos hin, Option.bind_some, e62, Option.bind_some, eh]
      have tw := qv_tI (qj_w (v p)) (by omega)
      have dz : ∀ k : Nat, k ≤ 16 → decide (Int32.ofNat (qj_w (v p)) = Int32.ofNat k) = decide (qj_w (v p) = k) := fun k hk => by
        rw [decide_eq_decide, qv_ni _ _ (by omega) (by omega)]
      have d0 := dz 0 (by omega)
      have d10 := dz 10 (by omega)
      have d11 := dz 11 (by omega)
      rw [show (Int32.ofNat 0) = 0 from rfl] at d0
      rw [show (Int32.ofNat 10) = 10 from rfl] at d10
      rw [show (Int32.ofNat 11) = 11 from rfl] at d11
      rw [d0, d10, d11]
      have enx : Int32.ofNat p + 1 = Int32.ofNat (p + 1) := qv_s1 p
      have tp1 := qv_tI (p + 1) (by omega)
      have eNx : qN (Int32.ofNat (p + 1)) = p + 1 := qv_tN _ (by omega)
      have hfx : qj_w (v p) ≠ 0 → qj_w (v p) ≠ 10 → ∀ D', qk_V v size D' → (0 ≤ (Int32.ofNat (p + 1)).toInt ∧ (Int32.ofNat (p + 1)).toInt < size) ∧ qk_h (qj_w (v p)) h ≤ 8 ∧ D' (qN (Int32.ofNat (p + 1))) = Int32.ofNat (qk_h (qj_w (v p)) h) := by
        intro w0 w10 D' hV
        obtain ⟨k1, k2, k3, k4, k5, k6⟩ := hsay D' hV
        rw [eNx]
        exact ⟨⟨by omega, by have := (k5 w0 w10).1; omega⟩, k4, (k5 w0 w10).2⟩
      have hfn : qj_w (v p) = 10 ∨ qj_w (v p) = 11 → ∀ D', qk_V v size D' → (0 ≤ (qj_n (v p)).toInt ∧ (qj_n (v p)).toInt < size) ∧ qk_h (qj_w (v p)) h ≤ 8 ∧ D' (qN (qj_n (v p))) = Int32.ofNat (qk_h (qj_w (v p)) h) := by
        intro w D' hV
        obtain ⟨k1, k2, k3, k4, k5, k6⟩ := hsay D' hV
        exact ⟨k3.2.1 w, k4, k6 w⟩
      by_cases w0 : qj_w (v p) = 0
      · right
        refine ⟨x, by rw [decide_eq_true w0]; rfl, ⟨hX, qfr_r, fun _ _ => rfl, fun _ _ => rfl, Nat.le_refl _⟩, w16, htk, ⟨n1, fun g => by omega, n2, n3⟩, ?_, fun g => absurd w0 g, fun g => by omega⟩
        rw [w0]; show h - 0 + 0 ≤ 8; omega
      · rw [decide_eq_false w0, cond_false]
        by_cases w10 : qj_w (v p) = 10
        · rw [decide_eq_true w10, cond_true]
          rcases qs_55 hX hs hk12 e1 (hfn (Or.inl w10)) with ⟨g1, g2⟩ | ⟨x', g1, g2, g3, g4, g5⟩
          · left
            exact ⟨x, by rw [g1]; rfl, qfr_r, g2⟩
          · right
            refine ⟨x', by rw [g1]; rfl, g2, w16, htk, ⟨n1, fun _ => g3, n2, n3⟩, g4, fun _ g => absurd w10 g, fun _ => g5⟩
        · rw [decide_eq_false w10, cond_false]
          by_cases w11 : qj_w (v p) = 11
          · rw [decide_eq_true w11, cond_true, enx]
            rcases qs_55 hX hs hk12 e1 (hfn (Or.inr w11)) with ⟨g1, g2⟩ | ⟨x', g1, g2, g3, g4, g5⟩
            · left
              exact ⟨x, by rw [g1]; rfl, qfr_r, g2⟩
            · have e1' : x' 14 i 1 = Int32.ofNat size := by rw [g2.2.1 14 (by decide)]; exact e1
              rcases qs_55 g2.1 hs hk12 e1' (hfx w0 w10) with ⟨f1, f2⟩ | ⟨x'', f1, f2, f3, f4, f5⟩
              · left
                refine ⟨x', ?_, g2.2.1, f2⟩
                rw [g1, Option.bind_some]
                dsimp only
                rw [qu_10F, cond_false, f1, Option.bind_some]; rfl
              · right
                refine ⟨x'', ?_, qs_Gt g2 f2, w16, htk, ⟨n1, fun _ => g3, n2, n3⟩, g4, fun _ _ => ?_, fun _ => ?_⟩
                · rw [g1, Option.bind_some]
                  dsimp only
                  rw [qu_10F, cond_false, f1, Option.bind_some]; rfl
                · rw [eNx] at f5
                  exact ⟨by omega, f5⟩
                · rw [f2.2.2.1 _ (by rw [g5]; exact qv_mm _ (by omega))]; exact g5
          · rw [decide_eq_false w11, cond_false, enx]
            rcases qs_55 hX hs hk12 e1 (hfx w0 w10) with ⟨g1, g2⟩ | ⟨x', g1, g2, g3, g4, g5⟩
            · left
              exact ⟨x, by rw [g1]; rfl, qfr_r, g2⟩
            · right
              rw [eNx] at g5
              refine ⟨x', by rw [g1]; rfl, g2, w16, htk, ⟨n1, fun g => by omega, n2, n3⟩, g4, fun _ _ => ⟨by omega, g5⟩, fun g => by omega⟩
    · left
      refine ⟨x, ?_, qfr_r, fun ⟨D', hV⟩ => htk (hsay D' hV).2.1⟩
      rw [qu_geF (by omega), cond_false]
  · left
    refine ⟨x, ?_, qfr_r, fun ⟨D', hV⟩ => hn0 ?_⟩
    · rw [e60]; rfl
    · obtain ⟨k1, k2, k3, k4, k5, k6⟩ := hsay D' hV
      exact ⟨k1, k3.1, k3.2.2.1, k3.2.2.2⟩
