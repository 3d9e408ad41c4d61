/-! the reference's look at a code -/
theorem qcd_134 {w : Nat} (hw : w ≤ 63) (s : qp_S) : qf134 (Int32.ofNat w) s = some (Int32.ofNat (if w ≤ 16 then qj_tk w else 9)) := by
  by_cases h : w ≤ 16
  · rw [if_pos h]
    have hc : w = 0 ∨ w = 1 ∨ w = 2 ∨ w = 3 ∨ w = 4 ∨ w = 5 ∨ w = 6 ∨ w = 7 ∨ w = 8 ∨ w = 9 ∨ w = 10 ∨ w = 11 ∨ w = 12 ∨ w = 13 ∨ w = 14 ∨ w = 15 ∨ w = 16 := by omega
    rcases hc with e | e | e | e | e | e | e | e | e | e | e | e | e | e | e | e | e <;> subst e <;> rfl
  · have tw := qv_tI w (by omega)
    have l16 : (16:Int32).toInt = 16 := rfl
    rw [if_neg h]
    unfold qf134
    rw [qu_leF (by omega)]; rfl
theorem qcd_136 {w : Nat} (h : w ≤ 16) (s : qp_S) : qf136 (Int32.ofNat w) s = some (Int32.ofNat (qj_lv w)) := by
  have hc : w = 0 ∨ w = 1 ∨ w = 2 ∨ w = 3 ∨ w = 4 ∨ w = 5 ∨ w = 6 ∨ w = 7 ∨ w = 8 ∨ w = 9 ∨ w = 10 ∨ w = 11 ∨ w = 12 ∨ w = 13 ∨ w = 14 ∨ w = 15 ∨ w = 16 := by omega
  rcases hc with e | e | e | e | e | e | e | e | e | e | e | e | e | e | e | e | e <;> subst e <;> rfl
theorem qcd_135 {w size : Nat} (hw : w ≤ 16) (hs : size ≤ 32) (n : Int32) (s : qp_S) : (qk_n w n size ∧ qf135 (Int32.ofNat w) n (Int32.ofNat size) s = some 1) ∨ (¬ qk_n w n size ∧ qf135 (Int32.ofNat w) n (Int32.ofNat size) s = some 0) := by
  have l0 : (0:Int32).toInt = 0 := rfl; have l1 : (1:Int32).toInt = 1 := rfl; have lm : (-1:Int32).toInt = -1 := rfl; have l3 : (3:Int32).toInt = 3 := rfl; have l4 : (4:Int32).toInt = 4 := rfl; have l5 : (5:Int32).toInt = 5 := rfl; have l6 : (6:Int32).toInt = 6 := rfl; have l7 : (7:Int32).toInt = 7 := rfl; have l8 : (8:Int32).toInt = 8 := rfl; have l15 : (15:Int32).toInt = 15 := rfl; have l16 : (16:Int32).toInt = 16 := rfl; have l32 : (32:Int32).toInt = 32 := rfl
  have tz := qv_tI size (by omega)
  have hz : (bif qm_cmp .ne n (0 : Int32) then some (0 : Int32) else some (1 : Int32)) = some (qv_b (decide (n = 0))) := by
    rw [qv_ne]
    by_cases e : n = 0
    · rw [decide_eq_true e, decide_eq_false (fun g => g e)]; rfl
    · rw [decide_eq_false e, decide_eq_true e]; rfl
  have hi : ∀ b : Int32, ((qf116 n 0 b s).bind fun q2 => (if (q2 = 0 ∨ q2 = 1) then some q2 else none)) = some (qv_b (decide (0 ≤ n.toInt ∧ n.toInt ≤ b.toInt))) := by
    intro b
    rw [qv116, Option.bind_some, l0]
    cases decide (0 ≤ n.toInt ∧ n.toInt ≤ b.toInt) <;> rfl
  have hsz : (Int32.ofNat size - 1).toInt = (size : Int) - 1 := by
    rcases Nat.eq_zero_or_pos size with g | g
    · subst g; rfl
    · rw [qv_m1 size g, qv_tI _ (by omega)]; omega
  have hfin : ∀ (P : Prop) [Decidable P], (qk_n w n size ↔ P) → qf135 (Int32.ofNat w) n (Int32.ofNat size) s = some (qv_b (decide P)) → (qk_n w n size ∧ qf135 (Int32.ofNat w) n (Int32.ofNat size) s = some 1) ∨ (¬ qk_n w n size ∧ qf135 (Int32.ofNat w) n (Int32.ofNat size) s = some 0) := by
    intro P _ h1 h2
    by_cases e : P
    · left; rw [decide_eq_true e] at h2; exact ⟨h1.mpr e, h2⟩
    · right; rw [decide_eq_false e] at h2; exact ⟨fun g => e (h1.mp g), h2⟩
  have h5 := hi 5
  have h3 := hi 3
  have hsi := hi (Int32.ofNat size - 1)
  rw [l5] at h5
  rw [l3] at h3
  rw [hsz] at hsi
  have hc : w = 0 ∨ w = 1 ∨ w = 2 ∨ w = 3 ∨ w = 4 ∨ w = 5 ∨ w = 6 ∨ w = 7 ∨ w = 8 ∨ w = 9 ∨ w = 10 ∨ w = 11 ∨ w = 12 ∨ w = 13 ∨ w = 14 ∨ w = 15 ∨ w = 16 := by omega
  rcases hc with e | e | e | e | e | e | e | e | e | e | e | e | e | e | e | e | e
  · subst e; exact hfin (n = 0) (by simp [qk_n]) hz
  · subst e; exact hfin True (by simp [qk_n]) rfl
  · subst e; exact hfin (0 ≤ n.toInt ∧ n.toInt ≤ 5) (by simp [qk_n]; omega) h5
  · subst e; exact hfin (0 ≤ n.toInt ∧ n.toInt ≤ 5) (by simp [qk_n]; omega) h5
  · subst e; exact hfin (n = 0) (by simp [qk_n]) hz
  · subst e; exact hfin (n = 0) (by simp [qk_n]) hz
  · subst e; exact hfin (n = 0) (by simp [qk_n]) hz
  · subst e; exact hfin (n = 0) (by simp [qk_n]) hz
  · subst e; exact hfin (n = 0) (by simp [qk_n]) hz
  · subst e; exact hfin (n = 0) (by simp [qk_n]) hz
  · subst e; exact hfin (0 ≤ n.toInt ∧ n.toInt ≤ (size : Int) - 1) (by simp [qk_n]; omega) hsi
  · subst e; exact hfin (0 ≤ n.toInt ∧ n.toInt ≤ (size : Int) - 1) (by simp [qk_n]; omega) hsi
  · subst e; exact hfin (n = 0) (by simp [qk_n]) hz
  · subst e; exact hfin (n = 0) (by simp [qk_n]) hz
  · subst e; exact hfin (n = 0) (by simp [qk_n]) hz
  · subst e; exact hfin (0 ≤ n.toInt ∧ n.toInt ≤ 3) (by simp [qk_n]; omega) h3
  · subst e; exact hfin (0 ≤ n.toInt ∧ n.toInt ≤ 3) (by simp [qk_n]; omega) h3
/-- how it goes on -/
def qcd_G (v : Nat → Int32) (size : Nat) (y y' : qp_S) : Prop := qk_I v size (y' 60 0) ∧ qfr [60] y y' ∧ (∀ q, y 60 0 q ≠ -1 → y' 60 0 q = y 60 0 q) ∧ (y' 60 0 = y 60 0 ∨ qk_c (y 60 0) 32 < qk_c (y' 60 0) 32)
theorem qcd_Gt {v : Nat → Int32} {size : Nat} {y y' y'' : qp_S} (h : qcd_G v size y y') (h' : qcd_G v size y' y'') : qcd_G v size y y'' := by
  obtain ⟨a1, a2, a3, a4⟩ := h
  obtain ⟨b1, b2, b3, b4⟩ := h'
  refine ⟨b1, qfr_t a2 b2, fun q hq => ?_, ?_⟩
  · rw [b3 q (by rw [a3 q hq]; exact hq)]; exact a3 q hq
  · rcases a4 with a4 | a4
    · rw [a4] at b4; exact b4
    · right
      rcases b4 with b4 | b4
      · rw [b4]; exact a4
      · omega
theorem qcd_132 {v : Nat → Int32} {size p h : Nat} {y : qp_S} (hI : qk_I v size (y 60 0)) (hs : size ≤ 32) (hp : p ≤ 32) (hh : h ≤ 12) (hf : ∀ D', qk_V v size D' → p < size ∧ h ≤ 8 ∧ D' p = Int32.ofNat h) : (qf132 (Int32.ofNat p) (Int32.ofNat h) (Int32.ofNat size) y = some (0, y) ∧ ¬ ∃ D', qk_V v size D') ∨ ∃ y', qf132 (Int32.ofNat p) (Int32.ofNat h) (Int32.ofNat size) y = some (1, y') ∧ qcd_G v size y y' ∧ p < size ∧ h ≤ 8 ∧ y' 60 0 p = Int32.ofNat h := by
  have l0 : (0:Int32).toInt = 0 := rfl; have l1 : (1:Int32).toInt = 1 := rfl; have lm : (-1:Int32).toInt = -1 := rfl; have l3 : (3:Int32).toInt = 3 := rfl; have l4 : (4:Int32).toInt = 4 := rfl; have l5 : (5:Int32).toInt = 5 := rfl; have l6 : (6:Int32).toInt = 6 := rfl; have l7 : (7:Int32).toInt = 7 := rfl; have l8 : (8:Int32).toInt = 8 := rfl; have l15 : (15:Int32).toInt = 15 := rfl; have l16 : (16:Int32).toInt = 16 := rfl; have l32 : (32:Int32).toInt = 32 := rfl
  have tz := qv_tI size (by omega)
  have th := qv_tI h (by omega)
  have tp := qv_tI p (by omega)
  by_cases c1 : p < size
  · by_cases c2 : h ≤ 8
    · have hup : (qp_up y 60 0 p (Int32.ofNat h)) 60 0 = qj_up (y 60 0) p (Int32.ofNat h) := by
        funext q
        unfold qj_up
        by_cases e : q = p
        · subst e; rw [if_pos rfl]; exact qu_ps
        · rw [if_neg e]; exact qu_pj e
      have hgo : y 60 0 p = -1 ∨ y 60 0 p = Int32.ofNat h → qcd_G v size y (qp_up y 60 0 p (Int32.ofNat h)) := by
        intro hD
        obtain ⟨p1, p2, p3⟩ := qk_put hI c1 hs c2 hD (fun D' hV => (hf D' hV).2.2)
        refine ⟨by rw [hup]; exact p1, qfr_up (by decide) qfr_r, fun q hq => by rw [hup]; exact p3 q hq, by rw [hup]; exact p2⟩
      by_cases c3 : y 60 0 p = -1
      · right
        refine ⟨_, ?_, hgo (Or.inl c3), c1, c2, qu_ps⟩
        simp (disch := first | omega | assumption | decide) only [qf132, qu_ltT, qu_ltF, qu_gtT, qu_gtF, qu_geT, qu_geF, qu_leT, qu_leF, qu_eqT, qu_eqF, qu_neT, qu_neF, qu_inT, qu_24T, qu_24F, qu_116T, qu_116F, qu_13T, qu_13F, qu_10F, qu_00T, qu_n10, qu_n00, Option.bind_some, qv_ct, qv_cf, if_true, qv_tN, qv_c6, qv_c4, qv_c8, qv_c32, qv_d4, qv_d16, qv_f4, qv_a1, qv_a2, qv_a3, qv_add, qv_inT, c3]
      · obtain ⟨-, h', hh', e'⟩ : p < size ∧ ∃ h', h' ≤ 8 ∧ y 60 0 p = Int32.ofNat h' := by
          rcases hI.2.1 p (by omega) with g | g
          · exact absurd g c3
          · exact g
        have th' := qv_tI h' (by omega)
        by_cases c4 : h' = h
        · subst c4
          right
          refine ⟨_, ?_, hgo (Or.inr e'), c1, c2, qu_ps⟩
          simp (disch := first | omega | assumption | decide) only [qf132, qu_ltT, qu_ltF, qu_gtT, qu_gtF, qu_geT, qu_geF, qu_leT, qu_leF, qu_eqT, qu_eqF, qu_neT, qu_neF, qu_inT, qu_24T, qu_24F, qu_116T, qu_116F, qu_13T, qu_13F, qu_10F, qu_00T, qu_n10, qu_n00, Option.bind_some, qv_ct, qv_cf, if_true, qv_tN, qv_c6, qv_c4, qv_c8, qv_c32, qv_d4, qv_d16, qv_f4, qv_a1, qv_a2, qv_a3, qv_add, qv_inT, e']
        · left
          refine ⟨?_, fun ⟨D', hV⟩ => ?_⟩
          · simp (disch := first | omega | assumption | decide) only [qf132, qu_ltT, qu_ltF, qu_gtT, qu_gtF, qu_geT, qu_geF, qu_leT, qu_leF, qu_eqT, qu_eqF, qu_neT, qu_neF, qu_inT, qu_24T, qu_24F, qu_116T, qu_116F, qu_13T, qu_13F, qu_10F, qu_00T, qu_n10, qu_n00, Option.bind_some, qv_ct, qv_cf, if_true, qv_tN, qv_c6, qv_c4, qv_c8, qv_c32, qv_d4, qv_d16, qv_f4, qv_a1, qv_a2, qv_a3, qv_add, qv_inT, e']
          · have g1 := hI.2.2 D' hV p (by omega) c3
            rw [e', (hf D' hV).2.2] at g1
            exact c4 (qv_mi _ _ g1 (by omega) (by omega)).symm
    · left
      refine ⟨?_, fun ⟨D', hV⟩ => c2 (hf D' hV).2.1⟩
      simp (disch := first | omega | assumption | decide) only [qf132, qu_ltT, qu_ltF, qu_gtT, qu_gtF, qu_geT, qu_geF, qu_leT, qu_leF, qu_eqT, qu_eqF, qu_neT, qu_neF, qu_inT, qu_24T, qu_24F, qu_116T, qu_116F, qu_13T, qu_13F, qu_10F, qu_00T, qu_n10, qu_n00, Option.bind_some, qv_ct, qv_cf, if_true, qv_tN, qv_c6, qv_c4, qv_c8, qv_c32, qv_d4, qv_d16, qv_f4, qv_a1, qv_a2, qv_a3, qv_add, qv_inT]
  · left
    refine ⟨?_, fun ⟨D', hV⟩ => c1 (hf D' hV).1⟩
    simp (disch := first | omega | assumption | decide) only [qf132, qu_ltT, qu_ltF, qu_gtT, qu_gtF, qu_geT, qu_geF, qu_leT, qu_leF, qu_eqT, qu_eqF, qu_neT, qu_neF, qu_inT, qu_24T, qu_24F, qu_116T, qu_116F, qu_13T, qu_13F, qu_10F, qu_00T, qu_n10, qu_n00, Option.bind_some, qv_ct, qv_cf, if_true, qv_tN, qv_c6, qv_c4, qv_c8, qv_c32, qv_d4, qv_d16, qv_f4, qv_a1, qv_a2, qv_a3, qv_add, qv_inT]
theorem qcd_133 {size i p h : Nat} {y : qp_S} (hi : i < 8) (hI : qk_I (qj_v y i) size (y 60 0)) (hs : size ≤ 32) (e1 : y 33 0 i = Int32.ofNat size) (hp : p < size) (hh : h ≤ 8) (eD : y 60 0 p = Int32.ofNat h) : (∃ y', qf133 (Int32.ofNat i) (Int32.ofNat p) y = some (0, y') ∧ qfr [60] y y' ∧ ¬ ∃ D', qk_V (qj_v y i) size D') ∨ ∃ y', qf133 (Int32.ofNat i) (Int32.ofNat p) y = some (1, y') ∧ qcd_G (qj_v y i) size y y' ∧ qk_ok (qj_v y i p) size (y' 60 0) p h := by
  have l0 : (0:Int32).toInt = 0 := rfl; have l1 : (1:Int32).toInt = 1 := rfl; have lm : (-1:Int32).toInt = -1 := rfl; have l3 : (3:Int32).toInt = 3 := rfl; have l4 : (4:Int32).toInt = 4 := rfl; have l5 : (5:Int32).toInt = 5 := rfl; have l6 : (6:Int32).toInt = 6 := rfl; have l7 : (7:Int32).toInt = 7 := rfl; have l8 : (8:Int32).toInt = 8 := rfl; have l15 : (15:Int32).toInt = 15 := rfl; have l16 : (16:Int32).toInt = 16 := rfl; have l32 : (32:Int32).toInt = 32 := rfl; have l9 : (9:Int32).toInt = 9 := rfl
  obtain ⟨v, hv⟩ : ∃ v, v = qj_v y i := ⟨_, rfl⟩
  rw [← hv] at hI ⊢
  have tz := qv_tI size (by omega)
  have tp := qv_tI p (by omega)
  have th := qv_tI h (by omega)
  have hsay : ∀ D', qk_V v size D' → qk_ok (v p) size D' p h := fun D' hV => qk_say hI hs hV (by omega) hh eD
  obtain ⟨ew, hw63⟩ := qw_w (v p)
  have evp : y 32 0 (32 * i + p) = v p := by rw [hv]; unfold qj_v; rw [if_pos (by omega)]
  have hin : qm_inb (Int32.ofNat p) 32 = true := qv_inT p 32 (by omega) (by decide)
  have hin8 : qm_inb (Int32.ofNat i) 8 = true := qv_inT i 8 hi (by decide)
  have hin256 : qm_inb (Int32.ofNat (32 * i + p)) 256 = true := qv_inT _ 256 (by omega) (by decide)
  have e134 := qcd_134 hw63 y
  unfold qf133
  rw [qv_c32, if_pos hin256, if_pos hin8, qv_tN _ (by omega), evp, ew, show v p >>> ((6 : Int32) &&& 31) = qj_n (v p) from rfl, e134, Option.bind_some, if_pos hin, qv_tN p (by omega), eD, qv_tN i (by omega), e1]
  have hq1 := qj_tk2 (qj_w (v p))
  by_cases w16 : qj_w (v p) ≤ 16
  · rw [if_pos w16]
    have ttk := qv_tI (qj_tk (qj_w (v p))) (by omega)
    have hq2 := qj_lv2 (qj_w (v p))
    by_cases htk : qj_tk (qj_w (v p)) ≤ h
    · rw [qu_gtF (by omega), cond_false]
      rcases qcd_135 w16 hs (qj_n (v p)) y with ⟨hn, e135⟩ | ⟨hn, e135⟩
      · have eh : Int32.ofNat h - Int32.ofNat (qj_tk (qj_w (v p))) + Int32.ofNat (qj_lv (qj_w (v p))) = Int32.ofNat (qk_h (qj_w (v p)) h) := by
          rw [qv_sub _ _ htk, qv_add]; rfl
        have hk12 : qk_h (qj_w (v p)) h ≤ 12 := by unfold qk_h; omega
        have tkh := qv_tI (qk_h (qj_w (v p)) h) (by omega)
        rw [e135, Option.bind_some, qu_n10, cond_true, if_pos hin, Option.bind_some, qcd_136 w16 y, Option.bind_some, eh]
        by_cases hk8 : qk_h (qj_w (v p)) h ≤ 8
        · rw [qu_leT (by omega), cond_true]
          have tw := qv_tI (qj_w (v p)) (by omega)
          have cz : ∀ k : Nat, k ≤ 16 → qm_cmp .eq (Int32.ofNat (qj_w (v p))) (Int32.ofNat k) = decide (qj_w (v p) = k) := fun k hk => qv_eqj _ _ (by omega) (by omega)
          have c0 := cz 0 (by omega)
          have c10 := cz 10 (by omega)
          rw [show (Int32.ofNat 0) = 0 from rfl] at c0
          rw [show (Int32.ofNat 10) = 10 from rfl] at c10
          have c11 : qm_cmp .ne (Int32.ofNat (qj_w (v p))) 11 = decide (¬ qj_w (v p) = 11) := qv_nej _ 11 (by omega) (by omega)
          have enx : Int32.ofNat p + 1 = Int32.ofNat (p + 1) := qv_s1 p
          have hfx : qj_w (v p) ≠ 0 → qj_w (v p) ≠ 10 → ∀ D', qk_V v size D' → p + 1 < size ∧ qk_h (qj_w (v p)) h ≤ 8 ∧ D' (p + 1) = Int32.ofNat (qk_h (qj_w (v p)) h) := by
            intro w0 w10 D' hV
            obtain ⟨k1, k2, k3, k4, k5, k6⟩ := hsay D' hV
            exact ⟨(k5 w0 w10).1, k4, (k5 w0 w10).2⟩
          have hfn : qj_w (v p) = 10 ∨ qj_w (v p) = 11 → ∃ q, q < size ∧ qj_n (v p) = Int32.ofNat q ∧ qN (qj_n (v p)) = q ∧ ∀ D', qk_V v size D' → q < size ∧ qk_h (qj_w (v p)) h ≤ 8 ∧ D' q = Int32.ofNat (qk_h (qj_w (v p)) h) := by
            intro w
            obtain ⟨q, hq, eq⟩ := qv_ex (a := qj_n (v p)) (N := size) (hn.2.1 w).1 (hn.2.1 w).2
            have eN : qN (qj_n (v p)) = q := by rw [eq]; exact qv_tN q (by omega)
            refine ⟨q, hq, eq, eN, fun D' hV => ?_⟩
            obtain ⟨k1, k2, k3, k4, k5, k6⟩ := hsay D' hV
            have := k6 w
            rw [eN] at this
            exact ⟨hq, k4, this⟩
          by_cases w0 : qj_w (v p) = 0
          · right
            refine ⟨y, ?_, ⟨hI, qfr_r, fun _ _ => rfl, Or.inl rfl⟩, w16, htk, hn, hk8, fun g => absurd w0 g, fun g => by omega⟩
            rw [c0, decide_eq_true w0, cond_true]
            unfold qf133_115 qf133_120
            rw [qu_10F, cond_false, c10, decide_eq_false (by omega), cond_false, c11, decide_eq_true (by omega), cond_true]
          · rw [c0, decide_eq_false w0, cond_false, c10]
            by_cases w10 : qj_w (v p) = 10
            · obtain ⟨q, q1, q2, q3, q4⟩ := hfn (Or.inl w10)
              rw [decide_eq_true w10, cond_true]
              unfold qf133_115 qf133_120
              rw [qu_10F, cond_false, c10, decide_eq_true w10, cond_true]
              unfold qf133_141
              rw [q2]
              rcases qcd_132 hI hs (by omega) hk12 q4 with ⟨g1, g2⟩ | ⟨y', g1, g2, g3, g4, g5⟩
              · left
                exact ⟨y, by rw [g1]; rfl, qfr_r, g2⟩
              · right
                refine ⟨y', by rw [g1]; rfl, g2, w16, htk, hn, hk8, fun _ g => absurd w10 g, fun _ => ?_⟩
                rw [q3]; exact g5
            · rw [decide_eq_false w10, cond_false, enx]
              rcases qcd_132 hI hs (by omega) hk12 (hfx w0 w10) with ⟨g1, g2⟩ | ⟨y', g1, g2, g3, g4, g5⟩
              · left
                refine ⟨y, ?_, qfr_r, g2⟩
                rw [g1, Option.bind_some]
                dsimp only
                rw [qu_00T, cond_true]
                unfold qf133_120
                rw [qu_00T, cond_true]
              · rw [g1, Option.bind_some]
                dsimp only
                rw [qu_10F, cond_false]
                unfold qf133_115 qf133_120
                rw [qu_10F, cond_false, c10, decide_eq_false w10, cond_false, c11]
                by_cases w11 : qj_w (v p) = 11
                · obtain ⟨q, q1, q2, q3, q4⟩ := hfn (Or.inr w11)
                  rw [decide_eq_false (by omega), cond_false]
                  unfold qf133_141
                  rw [q2]
                  rcases qcd_132 g2.1 hs (by omega) hk12 q4 with ⟨f1, f2⟩ | ⟨y'', f1, f2, f3, f4, f5⟩
                  · left
                    exact ⟨y', by rw [f1]; rfl, g2.2.1, f2⟩
                  · right
                    refine ⟨y'', by rw [f1]; rfl, qcd_Gt g2 f2, w16, htk, hn, hk8, fun _ _ => ⟨g3, ?_⟩, fun _ => ?_⟩
                    · rw [f2.2.2.1 _ (by rw [g5]; exact qv_mm _ (by omega))]; exact g5
                    · rw [q3]; exact f5
                · right
                  refine ⟨y', by rw [decide_eq_true w11]; rfl, g2, w16, htk, hn, hk8, fun _ _ => ⟨g3, g5⟩, fun g => by omega⟩
        · left
          refine ⟨y, ?_, qfr_r, fun ⟨D', hV⟩ => hk8 (hsay D' hV).2.2.2.1⟩
          rw [qu_leF (by omega), cond_false]
      · left
        refine ⟨y, ?_, qfr_r, fun ⟨D', hV⟩ => hn (hsay D' hV).2.2.1⟩
        rw [e135]; rfl
    · left
      refine ⟨y, ?_, qfr_r, fun ⟨D', hV⟩ => htk (hsay D' hV).2.1⟩
      rw [qu_gtT (by omega), cond_true]
  · left
    refine ⟨y, ?_, qfr_r, fun ⟨D', hV⟩ => w16 (hsay D' hV).1⟩
    have t9 := qv_tI 9 (by omega)
    rw [if_neg w16, qu_gtT (by omega), cond_true]
