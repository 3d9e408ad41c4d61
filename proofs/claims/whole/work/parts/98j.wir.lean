/-! used tasks; wires -/
theorem qf_53 {x y : qp_S} {m t : Nat} (hM : qa_M x y) (hm : m < 4) (ht : t < 8) : qf53 m (Int32.ofNat t) x = some (qv_b (decide (0 < qN (y 41 0 m) ∧ 0 < qN (y 42 0 (8 * m + t))))) := by
  have l0 : (0:Int32).toInt = 0 := rfl; have l1 : (1:Int32).toInt = 1 := rfl; have lm : (-1:Int32).toInt = -1 := rfl; have l3 : (3:Int32).toInt = 3 := rfl; have l4 : (4:Int32).toInt = 4 := rfl; have l5 : (5:Int32).toInt = 5 := rfl; have l6 : (6:Int32).toInt = 6 := rfl; have l7 : (7:Int32).toInt = 7 := rfl; have l8 : (8:Int32).toInt = 8 := rfl; have l15 : (15:Int32).toInt = 15 := rfl; have l16 : (16:Int32).toInt = 16 := rfl; have l32 : (32:Int32).toInt = 32 := rfl
  obtain ⟨p, g, p1, p2, p3, p4⟩ := hM.2.2.1 m hm
  obtain ⟨f, f1, f2⟩ := hM.2.2.2 (8 * m + t) (by omega)
  have tp := qv_tI p (by omega)
  have tf := qv_tI f (by omega)
  have eP : qN (y 41 0 m) = p := by rw [p3]; exact qv_tN p (by omega)
  have eF : qN (y 42 0 (8 * m + t)) = f := by rw [f2]; exact qv_tN f (by omega)
  have e1 := (hM.1 m).1.trans p3
  have e2 := (hM.2.1 m t hm ht).trans f2
  rw [eP, eF]
  by_cases c1 : 0 < p
  · by_cases c2 : 0 < f
    · rw [decide_eq_true ⟨c1, c2⟩]
      simp (disch := first | omega | assumption | decide) only [qf53, e1, e2, qu_ltT, qu_ltF, qu_gtT, qu_gtF, qu_geT, qu_geF, qu_leT, qu_leF, qu_eqT, qu_eqF, qu_neT, qu_neF, qu_inT, qu_24T, qu_24F, qu_116T, qu_116F, qu_13T, qu_13F, qu_10F, qu_00T, qu_n10, qu_n00, Option.bind_some, qv_ct, qv_cf, if_true, qv_tN, qv_c6, qv_c4, qv_c8, qv_c32, qv_d4, qv_d16, qv_f4, qv_a1, qv_a2, qv_a3, qv_add, qv_inT]
      rfl
    · rw [decide_eq_false (by omega)]
      simp (disch := first | omega | assumption | decide) only [qf53, e1, e2, qu_ltT, qu_ltF, qu_gtT, qu_gtF, qu_geT, qu_geF, qu_leT, qu_leF, qu_eqT, qu_eqF, qu_neT, qu_neF, qu_inT, qu_24T, qu_24F, qu_116T, qu_116F, qu_13T, qu_13F, qu_10F, qu_00T, qu_n10, qu_n00, Option.bind_some, qv_ct, qv_cf, if_true, qv_tN, qv_c6, qv_c4, qv_c8, qv_c32, qv_d4, qv_d16, qv_f4, qv_a1, qv_a2, qv_a3, qv_add, qv_inT]
      rfl
  · rw [decide_eq_false (by omega)]
    simp (disch := first | omega | assumption | decide) only [qf53, e1, e2, qu_ltT, qu_ltF, qu_gtT, qu_gtF, qu_geT, qu_geF, qu_leT, qu_leF, qu_eqT, qu_eqF, qu_neT, qu_neF, qu_inT, qu_24T, qu_24F, qu_116T, qu_116F, qu_13T, qu_13F, qu_10F, qu_00T, qu_n10, qu_n00, Option.bind_some, qv_ct, qv_cf, if_true, qv_tN, qv_c6, qv_c4, qv_c8, qv_c32, qv_d4, qv_d16, qv_f4, qv_a1, qv_a2, qv_a3, qv_add, qv_inT]
    rfl
theorem qf_52 {x y : qp_S} {t : Nat} (hM : qa_M x y) (ht : t < 8) : ∃ b, qf52 (Int32.ofNat t) x = some (qv_b b) ∧ (b = true ↔ qk_U y t) := by
  obtain ⟨r, hr, b, e, hb⟩ := qv_loop (fun n k (_ : Unit) => qf52_2 n (Int32.ofNat t) (Int32.ofNat k) x) 4 (fun k _ => ∀ m, m < k → ¬ (0 < qN (y 41 0 m) ∧ 0 < qN (y 42 0 (8 * m + t)))) (fun r => ∃ b, r = qv_b b ∧ (b = true ↔ qk_U y t))
    (by
      intro n k _ hk hI
      have h53 := qf_53 hM hk ht
      by_cases c : 0 < qN (y 41 0 k) ∧ 0 < qN (y 42 0 (8 * k + t))
      · left
        rw [decide_eq_true c] at h53
        refine ⟨1, ?_, true, rfl, fun _ => ⟨k, hk, c⟩, fun _ => rfl⟩
        simp (disch := first | omega | assumption | decide) only [qf52_2, qv_g4, qv_g6, qv_g8, qv_g16, qv_g32, qv_g48, qv_e4, qv_e6, qv_e8, qv_e16, qv_e32, qv_e48, qv_inT, qv_tN, qv_s1, qv_ct, qv_cf, if_true, h53, Option.bind_some, qv_eq0, Bool.not_true]
      · right
        rw [decide_eq_false c] at h53
        refine ⟨(), ?_, fun m hm => ?_⟩
        · simp (disch := first | omega | assumption | decide) only [qf52_2, qv_g4, qv_g6, qv_g8, qv_g16, qv_g32, qv_g48, qv_e4, qv_e6, qv_e8, qv_e16, qv_e32, qv_e48, qv_inT, qv_tN, qv_s1, qv_ct, qv_cf, if_true, h53, Option.bind_some, qv_eq0, Bool.not_false]
        · by_cases e : m = k
          · subst e; exact c
          · exact hI m (by omega))
    (by
      intro n _ hI
      refine ⟨0, ?_, false, rfl, ?_⟩
      · simp (disch := first | omega | assumption | decide) only [qf52_2, qv_g4, qv_g6, qv_g8, qv_g16, qv_g32, qv_g48, qv_e4, qv_e6, qv_e8, qv_e16, qv_e32, qv_e48, qv_inT, qv_tN, qv_s1, qv_ct, qv_cf, if_true]
      · constructor
        · intro g; cases g
        · rintro ⟨m, hm, c⟩; exact absurd c (hI m hm)) 4096 0 () (by decide) (by decide) (fun m hm => absurd hm (Nat.not_lt_zero _))
  refine ⟨b, ?_, hb⟩
  rw [← e]
  unfold qf52
  exact hr
theorem qf_130 {x y : qp_S} {t : Nat} (hM : qa_M x y) (ht : t < 8) : ∃ b, qf130 (Int32.ofNat t) y = some (qv_b b) ∧ (b = true ↔ qk_U y t) := by
  have l0 : (0:Int32).toInt = 0 := rfl; have l1 : (1:Int32).toInt = 1 := rfl; have lm : (-1:Int32).toInt = -1 := rfl; have l3 : (3:Int32).toInt = 3 := rfl; have l4 : (4:Int32).toInt = 4 := rfl; have l5 : (5:Int32).toInt = 5 := rfl; have l6 : (6:Int32).toInt = 6 := rfl; have l7 : (7:Int32).toInt = 7 := rfl; have l8 : (8:Int32).toInt = 8 := rfl; have l15 : (15:Int32).toInt = 15 := rfl; have l16 : (16:Int32).toInt = 16 := rfl; have l32 : (32:Int32).toInt = 32 := rfl
  obtain ⟨r, hr, b, e, hb⟩ := qv_loop (fun n k (a : Int32) => qf130_4 n (Int32.ofNat t) a (Int32.ofNat k) y) 4 (fun k a => ∃ b, a = qv_b b ∧ (b = true ↔ ∃ m, m < k ∧ 0 < qN (y 41 0 m) ∧ 0 < qN (y 42 0 (8 * m + t)))) (fun r => ∃ b, r = qv_b b ∧ (b = true ↔ qk_U y t))
    (by
      rintro n k a hk ⟨b, rfl, hb⟩
      right
      cases b with
      | true =>
        refine ⟨1, ?_, true, rfl, fun _ => ?_, fun _ => rfl⟩
        · simp (disch := first | omega | assumption | decide) only [qf130_4, qv_g4, qv_g6, qv_g8, qv_g16, qv_g32, qv_g48, qv_e4, qv_e6, qv_e8, qv_e16, qv_e32, qv_e48, qv_inT, qv_tN, qv_s1, qv_ct, qv_cf, if_true, qv_ne0]
        · obtain ⟨m, hm, c⟩ := hb.mp rfl
          exact ⟨m, by omega, c⟩
      | false =>
        obtain ⟨p, g, p1, p2, p3, p4⟩ := hM.2.2.1 k hk
        obtain ⟨f, f1, f2⟩ := hM.2.2.2 (8 * k + t) (by omega)
        have tp := qv_tI p (by omega)
        have tf := qv_tI f (by omega)
        have eP : qN (y 41 0 k) = p := by rw [p3]; exact qv_tN p (by omega)
        have eF : qN (y 42 0 (8 * k + t)) = f := by rw [f2]; exact qv_tN f (by omega)
        have hstep : ∀ c : Bool, (c = true ↔ 0 < qN (y 41 0 k) ∧ 0 < qN (y 42 0 (8 * k + t))) → (c = true ↔ ∃ m, m < k + 1 ∧ 0 < qN (y 41 0 m) ∧ 0 < qN (y 42 0 (8 * m + t))) := by
          intro c hc
          rw [hc]
          constructor
          · intro g; exact ⟨k, by omega, g⟩
          · rintro ⟨m, hm, g⟩
            by_cases e : m = k
            · subst e; exact g
            · exact absurd (hb.mpr ⟨m, by omega, g⟩) (by decide)
        by_cases c1 : 0 < p
        · by_cases c2 : 0 < f
          · refine ⟨1, ?_, true, rfl, hstep true ⟨fun _ => by omega, fun _ => rfl⟩⟩
            simp (disch := first | omega | assumption | decide) only [qf130_4, qv_g4, qv_g6, qv_g8, qv_g16, qv_g32, qv_g48, qv_e4, qv_e6, qv_e8, qv_e16, qv_e32, qv_e48, qv_inT, qv_tN, qv_s1, qv_ct, qv_cf, if_true, qv_ne0, p3, f2, qu_ltT, qu_ltF, qu_gtT, qu_gtF, qu_geT, qu_geF, qu_leT, qu_leF, qu_eqT, qu_eqF, qu_neT, qu_neF, qu_inT, qu_24T, qu_24F, qu_116T, qu_116F, qu_13T, qu_13F, qu_10F, qu_00T, qu_n10, qu_n00, Option.bind_some, qv_ct, qv_cf, if_true, qv_tN, qv_c6, qv_c4, qv_c8, qv_c32, qv_d4, qv_d16, qv_f4, qv_a1, qv_a2, qv_a3, qv_add, qv_inT]
          · refine ⟨0, ?_, false, rfl, hstep false ⟨(fun g => by cases g), fun g => by omega⟩⟩
            simp (disch := first | omega | assumption | decide) only [qf130_4, qv_g4, qv_g6, qv_g8, qv_g16, qv_g32, qv_g48, qv_e4, qv_e6, qv_e8, qv_e16, qv_e32, qv_e48, qv_inT, qv_tN, qv_s1, qv_ct, qv_cf, if_true, qv_ne0, p3, f2, qu_ltT, qu_ltF, qu_gtT, qu_gtF, qu_geT, qu_geF, qu_leT, qu_leF, qu_eqT, qu_eqF, qu_neT, qu_neF, qu_inT, qu_24T, qu_24F, qu_116T, qu_116F, qu_13T, qu_13F, qu_10F, qu_00T, qu_n10, qu_n00, Option.bind_some, qv_ct, qv_cf, if_true, qv_tN, qv_c6, qv_c4, qv_c8, qv_c32, qv_d4, qv_d16, qv_f4, qv_a1, qv_a2, qv_a3, qv_add, qv_inT]
        · refine ⟨0, ?_, false, rfl, hstep false ⟨(fun g => by cases g), fun g => by omega⟩⟩
          simp (disch := first | omega | assumption | decide) only [qf130_4, qv_g4, qv_g6, qv_g8, qv_g16, qv_g32, qv_g48, qv_e4, qv_e6, qv_e8, qv_e16, qv_e32, qv_e48, qv_inT, qv_tN, qv_s1, qv_ct, qv_cf, if_true, qv_ne0, p3, f2, qu_ltT, qu_ltF, qu_gtT, qu_gtF, qu_geT, qu_geF, qu_leT, qu_leF, qu_eqT, qu_eqF, qu_neT, qu_neF, qu_inT, qu_24T, qu_24F, qu_116T, qu_116F, qu_13T, qu_13F, qu_10F, qu_00T, qu_n10, qu_n00, Option.bind_some, qv_ct, qv_cf, if_true, qv_tN, qv_c6, qv_c4, qv_c8, qv_c32, qv_d4, qv_d16, qv_f4, qv_a1, qv_a2, qv_a3, qv_add, qv_inT])
    (by
      rintro n a ⟨b, rfl, hb⟩
      refine ⟨qv_b b, ?_, b, rfl, hb⟩
      unfold qf130_4
      rw [qv_e4, cond_true]
      cases b <;> rfl) 4096 0 0 (by decide) (by decide) ⟨false, rfl, fun g => (by cases g), fun ⟨m, hm, _⟩ => absurd hm (Nat.not_lt_zero _)⟩
  refine ⟨b, ?_, hb⟩
  rw [← e]
  unfold qf130
  exact hr
/-- a word's wire -/
def qk_w1 (y : qp_S) (i p : Nat) : Prop := (qj_w (qj_v y i p) = 2 → y 34 0 (6 * i + qN (qj_n (qj_v y i p))) = 0) ∧ (qj_w (qj_v y i p) = 3 → y 34 0 (6 * i + qN (qj_n (qj_v y i p))) = 1)
theorem qf_65 {x y : qp_S} {i p : Nat} (hS : qa_S x y) (hn : (qj_w (qj_v y i p) = 2 ∨ qj_w (qj_v y i p) = 3 → 0 ≤ (qj_n (qj_v y i p)).toInt ∧ (qj_n (qj_v y i p)).toInt < 6)) : ∃ b, qf65 i (qj_v y i p) x = some (qv_b b) ∧ (b = true ↔ qk_w1 y i p) := by
  have l0 : (0:Int32).toInt = 0 := rfl; have l1 : (1:Int32).toInt = 1 := rfl; have lm : (-1:Int32).toInt = -1 := rfl; have l3 : (3:Int32).toInt = 3 := rfl; have l4 : (4:Int32).toInt = 4 := rfl; have l5 : (5:Int32).toInt = 5 := rfl; have l6 : (6:Int32).toInt = 6 := rfl; have l7 : (7:Int32).toInt = 7 := rfl; have l8 : (8:Int32).toInt = 8 := rfl; have l15 : (15:Int32).toInt = 15 := rfl; have l16 : (16:Int32).toInt = 16 := rfl; have l32 : (32:Int32).toInt = 32 := rfl
  obtain ⟨v, hv⟩ : ∃ v, v = qj_v y i p := ⟨_, rfl⟩
  unfold qk_w1
  rw [← hv] at hn ⊢
  obtain ⟨ew, hw63⟩ := qw_w v
  have en : ∀ s, qf59 v s = some (qj_n v) := fun s => rfl
  have ew2 : ∀ s, qf58 v s = some (Int32.ofNat (qj_w v)) := fun s => by rw [← ew]; rfl
  have dz : ∀ k : Nat, k ≤ 16 → decide (Int32.ofNat (qj_w v) = Int32.ofNat k) = decide (qj_w v = k) := fun k hk => by
    rw [decide_eq_decide, qv_ni _ _ (by omega) (by omega)]
  have d2 := dz 2 (by omega)
  have d3 := dz 3 (by omega)
  rw [show (Int32.ofNat 2) = 2 from rfl] at d2
  rw [show (Int32.ofNat 3) = 3 from rfl] at d3
  unfold qf65
  rw [en, Option.bind_some, ew2, Option.bind_some, d2, d3]
  have hw : ∀ (a : Int32) (P : Prop), (P ↔ y 34 0 (6 * i + qN (qj_n v)) = a) → (qj_w v = 2 ∨ qj_w v = 3) → ∃ b, ((qf13 (qj_n v) (6 : Int32) x).bind fun q3 => (bif qm_cmp .eq q3 (0 : Int32) then some (0 : Int32) else (if qm_inb (qj_n v) 6 = true then (bif qm_cmp .ne (x 16 (6 * i + (qj_n v).toNatClampNeg) 0) a then some (0 : Int32) else some (1 : Int32)) else none))) = some (qv_b b) ∧ (b = true ↔ P) := by
    intro a P hP hc
    have h6 := hn hc
    rw [qu_13T (by omega), Option.bind_some, qu_10F, cond_false, if_pos (qu_inT (by omega)), hS.1, qv_ne]
    by_cases e : y 34 0 (6 * i + (qj_n v).toNatClampNeg) = a
    · exact ⟨true, by rw [decide_eq_false (fun g => g e)]; rfl, fun _ => hP.mpr e, fun _ => rfl⟩
    · exact ⟨false, by rw [decide_eq_true e]; rfl, fun g => (by cases g), fun g => absurd (hP.mp g) e⟩
  by_cases w2 : qj_w v = 2
  · rw [decide_eq_true w2, cond_true]
    exact hw 0 _ ⟨fun g => g.1 w2, fun g => ⟨fun _ => g, fun g2 => by omega⟩⟩ (Or.inl w2)
  · rw [decide_eq_false w2, cond_false]
    by_cases w3 : qj_w v = 3
    · rw [decide_eq_true w3, cond_true]
      exact hw 1 _ ⟨fun g => g.2 w3, fun g => ⟨fun g2 => by omega, fun _ => g⟩⟩ (Or.inr w3)
    · rw [decide_eq_false w3, cond_false]
      exact ⟨true, rfl, fun _ => ⟨fun g => absurd g w2, fun g => absurd g w3⟩, fun _ => rfl⟩
theorem qk_nn {v : Nat → Int32} {size : Nat} {D : Nat → Int32} (hV : qk_V v size D) {p : Nat} (hp : p < 32) (hD : D p ≠ -1) : p < size ∧ (qj_w (v p) = 2 ∨ qj_w (v p) = 3 → 0 ≤ (qj_n (v p)).toInt ∧ (qj_n (v p)).toInt < 6) := by
  rcases hV.2.2 p hp with g | ⟨g, h, hh, e, hk⟩
  · exact absurd g hD
  · exact ⟨g, hk.2.2.1.1⟩
/-- the class's wires -/
theorem qf_64 {x y : qp_S} {i size : Nat} (hi : i < 8) (hs : size ≤ 32) (e1 : x 14 i 1 = Int32.ofNat size) (hv : ∀ p, p < size → x 17 i p = qj_v y i p) (hS : qa_S x y) (hX : qs_X (qj_v y i) size x) (hV : qk_V (qj_v y i) size (x 12 0)) : ∃ b, qf64 i x = some (qv_b b) ∧ (b = true ↔ qk_Wd y i (x 12 0)) := by
  have l0 : (0:Int32).toInt = 0 := rfl; have l1 : (1:Int32).toInt = 1 := rfl; have lm : (-1:Int32).toInt = -1 := rfl; have l3 : (3:Int32).toInt = 3 := rfl; have l4 : (4:Int32).toInt = 4 := rfl; have l5 : (5:Int32).toInt = 5 := rfl; have l6 : (6:Int32).toInt = 6 := rfl; have l7 : (7:Int32).toInt = 7 := rfl; have l8 : (8:Int32).toInt = 8 := rfl; have l15 : (15:Int32).toInt = 15 := rfl; have l16 : (16:Int32).toInt = 16 := rfl; have l32 : (32:Int32).toInt = 32 := rfl
  obtain ⟨X1, X2, X3, X4⟩ := hX
  obtain ⟨cn, hcn⟩ : ∃ cn, cn = qk_c (x 12 0) 32 := ⟨_, rfl⟩
  have hc32 : cn ≤ 32 := by rw [hcn]; exact qk_cle _ _
  rw [← hcn] at X2 X3 X4
  have tc := qv_tI cn (by omega)
  have tz := qv_tI size (by omega)
  obtain ⟨r, hr, b, e, hb⟩ := qv_loop (fun n k (a : Int32) => qf64_4 n i a (Int32.ofNat k) x) cn (fun k a => (a = 0 ∧ ¬ qk_Wd y i (x 12 0)) ∨ (a = 1 ∧ ∀ j p, j < k → p < 32 → x 13 0 j = Int32.ofNat p → qk_w1 y i p)) (fun r => ∃ b, r = qv_b b ∧ (b = true ↔ qk_Wd y i (x 12 0)))
    (by
      rintro n k a hk hI
      have tk := qv_tI k (by omega)
      rcases hI with ⟨ea, hI⟩ | ⟨ea, hI⟩
      · left
        subst ea
        refine ⟨0, ?_, false, rfl, fun g => (by cases g), fun g => absurd g hI⟩
        unfold qf64_4
        rw [X2, qu_geF (by omega), cond_false, qu_00T, cond_true]; rfl
      · right
        subst ea
        obtain ⟨p, p1, p2, p3⟩ := X3 k hk
        have tp := qv_tI p (by omega)
        obtain ⟨hps, hnn⟩ := qk_nn hV p1 p3
        obtain ⟨b, b1, b2⟩ := qf_65 hS hnn
        have e57 : qf57 i (Int32.ofNat p) x = some (qj_v y i p) := by
          simp (disch := first | omega | assumption | decide) only [qf57, e1, qu_ltT, qu_ltF, qu_gtT, qu_gtF, qu_geT, qu_geF, qu_leT, qu_leF, qu_eqT, qu_eqF, qu_neT, qu_neF, qu_inT, qu_24T, qu_24F, qu_116T, qu_116F, qu_13T, qu_13F, qu_10F, qu_00T, qu_n10, qu_n00, Option.bind_some, qv_ct, qv_cf, if_true, qv_tN, qv_c6, qv_c4, qv_c8, qv_c32, qv_d4, qv_d16, qv_f4, qv_a1, qv_a2, qv_a3, qv_add, qv_inT]
          rw [hv p hps]
        refine ⟨qv_b b, ?_, ?_⟩
        · unfold qf64_4
          rw [X2, qu_geF (by omega), cond_false, qu_10F, cond_false, if_pos (qv_inT k 32 (by omega) (by decide)), qv_tN k (by omega), p2, e57, Option.bind_some, b1, Option.bind_some, qv_s1]
          cases n <;> rfl
        · cases b with
          | true =>
            right
            refine ⟨rfl, fun j q j1 q1 q2 => ?_⟩
            by_cases ej : j = k
            · subst ej
              rw [p2] at q2
              have := qv_mi p q q2 (by omega) (by omega)
              subst this
              exact b2.mp rfl
            · exact hI j q (by omega) q1 q2
          | false =>
            left
            refine ⟨rfl, fun g => ?_⟩
            have := b2.mpr (g p p1 p3)
            cases this)
    (by
      rintro n a hI
      have hend : ∀ m : Nat, qm_cmp .ge (Int32.ofNat cn) (Int32.ofNat cn) = true := fun _ => qu_geT (Int.le_refl _)
      rcases hI with ⟨ea, hI⟩ | ⟨ea, hI⟩
      · subst ea
        refine ⟨0, ?_, false, rfl, fun g => (by cases g), fun g => absurd g hI⟩
        unfold qf64_4
        rw [X2, hend 0, cond_true]; rfl
      · subst ea
        refine ⟨1, ?_, true, rfl, fun _ p hp hD => ?_, fun _ => rfl⟩
        · unfold qf64_4
          rw [X2, hend 0, cond_true]; rfl
        · obtain ⟨j, j1, j2⟩ := X4 p hp hD
          exact hI j p j1 hp j2) 4096 0 1 (by omega) (by omega) (Or.inr ⟨rfl, fun j p hj => absurd hj (Nat.not_lt_zero _)⟩)
  refine ⟨b, ?_, hb⟩
  rw [← e]
  unfold qf64
  exact hr
/-- the reference's wires -/
theorem qf_137 {y : qp_S} {i size : Nat} (hi : i < 8) (hs : size ≤ 32) (e1 : y 33 0 i = Int32.ofNat size) (hI : qk_I (qj_v y i) size (y 60 0)) (hV : qk_V (qj_v y i) size (y 60 0)) : ∃ b, qf137_8 4096 (Int32.ofNat i) 1 0 y = some (qv_b b, y) ∧ (b = true ↔ qk_Wd y i (y 60 0)) := by
  have l0 : (0:Int32).toInt = 0 := rfl; have l1 : (1:Int32).toInt = 1 := rfl; have lm : (-1:Int32).toInt = -1 := rfl; have l3 : (3:Int32).toInt = 3 := rfl; have l4 : (4:Int32).toInt = 4 := rfl; have l5 : (5:Int32).toInt = 5 := rfl; have l6 : (6:Int32).toInt = 6 := rfl; have l7 : (7:Int32).toInt = 7 := rfl; have l8 : (8:Int32).toInt = 8 := rfl; have l15 : (15:Int32).toInt = 15 := rfl; have l16 : (16:Int32).toInt = 16 := rfl; have l32 : (32:Int32).toInt = 32 := rfl
  have tz := qv_tI size (by omega)
  have ti := qv_tI i (by omega)
  have hin8 : qm_inb (Int32.ofNat i) 8 = true := qv_inT i 8 hi (by decide)
  obtain ⟨r, hr, b, e, hb⟩ := qv_loop (fun n k (a : Int32) => qf137_8 n (Int32.ofNat i) a (Int32.ofNat k) y) size (fun k a => ∃ b, a = qv_b b ∧ (b = true ↔ ∀ p, p < k → y 60 0 p ≠ -1 → qk_w1 y i p)) (fun r => ∃ b, r = (qv_b b, y) ∧ (b = true ↔ qk_Wd y i (y 60 0)))
    (by
      rintro n k a hk ⟨b, ea, hb⟩
      right
      subst ea
      have tk := qv_tI k (by omega)
      have hin : qm_inb (Int32.ofNat k) 32 = true := qv_inT k 32 (by omega) (by decide)
      have hin256 : qm_inb (Int32.ofNat (32 * i + k)) 256 = true := qv_inT _ 256 (by omega) (by decide)
      have evp : y 32 0 (32 * i + k) = qj_v y i k := by unfold qj_v; rw [if_pos (by omega)]
      have hstep : ∀ c : Bool, (c = true ↔ (b = true ∧ (y 60 0 k ≠ -1 → qk_w1 y i k))) → (c = true ↔ ∀ p, p < k + 1 → y 60 0 p ≠ -1 → qk_w1 y i p) := by
        intro c hc
        rw [hc, hb]
        constructor
        · rintro ⟨g1, g2⟩ p hp hne
          by_cases e : p = k
          · subst e; exact g2 hne
          · exact g1 p (by omega) hne
        · intro g
          exact ⟨fun p hp hne => g p (by omega) hne, fun hne => g k (by omega) hne⟩
      by_cases hD : y 60 0 k = -1
      · refine ⟨qv_b b, ?_, b, rfl, hstep b ⟨fun g => ⟨g, fun g2 => absurd hD g2⟩, fun g => g.1⟩⟩
        have e5 : qm_cmp .lt (-1 : Int32) 0 = true := by decide
        simp (disch := first | omega | assumption | decide) only [qf137_8, qu_ltT, qu_ltF, qu_gtT, qu_gtF, qu_geT, qu_geF, qu_leT, qu_leF, qu_eqT, qu_eqF, qu_neT, qu_neF, qu_inT, qu_24T, qu_24F, qu_116T, qu_116F, qu_13T, qu_13F, qu_10F, qu_00T, qu_n10, qu_n00, Option.bind_some, qv_ct, qv_cf, if_true, qv_tN, qv_c6, qv_c4, qv_c8, qv_c32, qv_d4, qv_d16, qv_f4, qv_a1, qv_a2, qv_a3, qv_add, qv_inT, qv_g4, qv_g6, qv_g8, qv_g16, qv_g32, qv_g48, qv_e4, qv_e6, qv_e8, qv_e16, qv_e32, qv_e48, qv_inT, qv_tN, qv_s1, qv_ct, qv_cf, if_true, e1, hD, e5]
      · obtain ⟨-, hnn⟩ := qk_nn hV (by omega) hD
        obtain ⟨h, hh, eh⟩ : ∃ h, h ≤ 8 ∧ y 60 0 k = Int32.ofNat h := by
          rcases hI.2.1 k (by omega) with g | g
          · exact absurd g hD
          · exact g.2
        have th := qv_tI h (by omega)
        obtain ⟨v, hv⟩ : ∃ v, v = qj_v y i k := ⟨_, rfl⟩
        rw [← hv] at hnn evp
        obtain ⟨ew, hw63⟩ := qw_w v
        have cz : ∀ m : Nat, m ≤ 16 → qm_cmp .eq (Int32.ofNat (qj_w v)) (Int32.ofNat m) = decide (qj_w v = m) := fun m hm => qv_eqj _ _ (by omega) (by omega)
        have c2 := cz 2 (by omega)
        have c3 := cz 3 (by omega)
        rw [show (Int32.ofNat 2) = 2 from rfl] at c2
        rw [show (Int32.ofNat 3) = 3 from rfl] at c3
        have hun : qf137_8 (n + 1) (Int32.ofNat i) (qv_b b) (Int32.ofNat k) y = (bif decide (qj_w v = 2) then qf137_62 (qf137_8 n) (Int32.ofNat i) (qv_b b) (Int32.ofNat k) v (Int32.ofNat (qj_w v)) y else (bif decide (qj_w v = 3) then qf137_62 (qf137_8 n) (Int32.ofNat i) (qv_b b) (Int32.ofNat k) v (Int32.ofNat (qj_w v)) y else qf137_8 n (Int32.ofNat i) (qv_b b) (Int32.ofNat (k + 1)) y)) := by
          rw [← c2, ← c3, ← ew, ← evp]
          unfold qf137_8
          rw [if_pos hin8, qv_tN i (by omega), e1, qu_geF (by omega), cond_false, qv_c32, if_pos hin256, if_pos hin, qv_tN k (by omega), eh, qu_ltF (by omega), cond_false, qv_tN _ (by omega), qv_s1]
          cases n <;> rfl
        have h62 : ∀ (z : Int32), (qj_w v = 2 ∧ z = 0 ∨ qj_w v = 3 ∧ z = 1) → ∃ a', qf137_62 (qf137_8 n) (Int32.ofNat i) (qv_b b) (Int32.ofNat k) v (Int32.ofNat (qj_w v)) y = qf137_8 n (Int32.ofNat i) a' (Int32.ofNat (k + 1)) y ∧ ∃ b', a' = qv_b b' ∧ (b' = true ↔ ∀ p, p < k + 1 → y 60 0 p ≠ -1 → qk_w1 y i p) := by
          intro z hz
          have hnw := hnn (by omega)
          obtain ⟨q, hq, eq⟩ := qv_ex (a := qj_n v) (N := 6) hnw.1 hnw.2
          have eN : qN (qj_n v) = q := by rw [eq]; exact qv_tN q (by omega)
          have hin48 : qm_inb (Int32.ofNat (6 * i + q)) 48 = true := qv_inT _ 48 (by omega) (by decide)
          have hw1 : qk_w1 y i k ↔ y 34 0 (6 * i + q) = z := by
            unfold qk_w1
            rw [← hv, eN]
            rcases hz with ⟨z1, z2⟩ | ⟨z1, z2⟩
            · subst z2
              exact ⟨fun g => g.1 z1, fun g => ⟨fun _ => g, fun g2 => by omega⟩⟩
            · subst z2
              exact ⟨fun g => g.2 z1, fun g => ⟨fun g2 => by omega, fun _ => g⟩⟩
          unfold qf137_62
          cases b with
          | false =>
            refine ⟨0, ?_, false, rfl, hstep false ⟨(fun g => by cases g), fun g => by cases g.1⟩⟩
            rw [show qm_cmp .eq (qv_b false) 0 = true by decide, cond_true, qv_s1]
          | true =>
            have c2n : qm_cmp .ne (Int32.ofNat (qj_w v)) 2 = decide (¬ qj_w v = 2) := qv_nej _ 2 (by omega) (by omega)
            rw [show qm_cmp .eq (qv_b true) 0 = false by decide, cond_false, show v >>> ((6 : Int32) &&& 31) = qj_n v from rfl, eq, qv_c6, if_pos hin48, qv_tN _ (by omega), c2n]
            have hgo : (bif decide (¬ qj_w v = 2) then qf137_92 (qf137_8 n) (Int32.ofNat i) (Int32.ofNat k) (y 34 0 (6 * i + q)) (1 : Int32) y else qf137_92 (qf137_8 n) (Int32.ofNat i) (Int32.ofNat k) (y 34 0 (6 * i + q)) (0 : Int32) y) = qf137_92 (qf137_8 n) (Int32.ofNat i) (Int32.ofNat k) (y 34 0 (6 * i + q)) z y := by
              rcases hz with ⟨z1, z2⟩ | ⟨z1, z2⟩
              · subst z2; rw [decide_eq_false (fun g => g z1), cond_false]
              · subst z2; rw [decide_eq_true (by omega), cond_true]
            rw [hgo]
            unfold qf137_92
            rw [qv_ne, qv_s1]
            by_cases c : y 34 0 (6 * i + q) = z
            · refine ⟨1, ?_, true, rfl, hstep true ⟨fun _ => ⟨rfl, fun _ => hw1.mpr c⟩, fun _ => rfl⟩⟩
              rw [decide_eq_false (fun g => g c), cond_false]
            · refine ⟨0, ?_, false, rfl, hstep false ⟨(fun g => by cases g), fun g => absurd (hw1.mp (g.2 hD)) c⟩⟩
              rw [decide_eq_true c, cond_true]
        by_cases w2 : qj_w v = 2
        · obtain ⟨a', g1, g2⟩ := h62 0 (Or.inl ⟨w2, rfl⟩)
          exact ⟨a', by rw [hun, decide_eq_true w2, cond_true, g1], g2⟩
        · by_cases w3 : qj_w v = 3
          · obtain ⟨a', g1, g2⟩ := h62 1 (Or.inr ⟨w3, rfl⟩)
            exact ⟨a', by rw [hun, decide_eq_false w2, cond_false, decide_eq_true w3, cond_true, g1], g2⟩
          · refine ⟨qv_b b, by rw [hun, decide_eq_false w2, cond_false, decide_eq_false w3, cond_false], b, rfl, hstep b ⟨fun g => ⟨g, fun _ => ?_⟩, fun g => g.1⟩⟩
            unfold qk_w1
            rw [← hv]
            exact ⟨fun g => absurd g w2, fun g => absurd g w3⟩)
    (by
      rintro n a ⟨b, ea, hb⟩
      subst ea
      refine ⟨(qv_b b, y), ?_, b, rfl, hb.trans ⟨fun g p hp hD => ?_, fun g p hp hD => g p (by omega) hD⟩⟩
      · unfold qf137_8
        rw [if_pos hin8, qv_tN i (by omega), e1, qu_geT (Int.le_refl _), cond_true]
        cases b <;> rfl
      · exact g p (qk_nn hV hp hD).1 hD) 4096 0 1 (by omega) (by omega) ⟨true, rfl, fun _ p hp => absurd hp (Nat.not_lt_zero _), fun _ => rfl⟩
  refine ⟨b, ?_, hb⟩
  rw [← e]
  exact hr
