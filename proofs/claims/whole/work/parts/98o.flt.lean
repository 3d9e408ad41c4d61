/-! all faults; start -/
theorem qh_70 {x y : qp_S} (hM : qa_M x y) (hS : qa_S x y) (hD : qa_D x y) (hP0 : 0 < qN (y 41 0 0)) {bad : Nat → Bool} (hbad : ∀ m, bad m = true ↔ qh_b4 y m) : qf70 x = some (qh_o (qh_f bad 4 0)) := by
  have l0 : (0:Int32).toInt = 0 := rfl; have l1 : (1:Int32).toInt = 1 := rfl; have lm : (-1:Int32).toInt = -1 := rfl; have l3 : (3:Int32).toInt = 3 := rfl; have l4 : (4:Int32).toInt = 4 := rfl; have l5 : (5:Int32).toInt = 5 := rfl; have l6 : (6:Int32).toInt = 6 := rfl; have l7 : (7:Int32).toInt = 7 := rfl; have l8 : (8:Int32).toInt = 8 := rfl; have l15 : (15:Int32).toInt = 15 := rfl; have l16 : (16:Int32).toInt = 16 := rfl; have l32 : (32:Int32).toInt = 32 := rfl
  have hsa : ∀ p k, qh_sa y p k = true ↔ y 45 0 k = Int32.ofNat p := fun p k => decide_eq_true_iff
  have hmodes : ∀ a, qh_m a (fun p => ∃ s, s < 8 ∧ y 45 0 s = Int32.ofNat p) → (∀ p, p < 16 → qh_n (qh_sa y p) 8 < 2) → qf70_55 4096 a 0 x = some (qh_o (qh_f bad 4 0)) := by
    intro a ha hno
    refine qh_cl (fun n k => qf70_55 n a (Int32.ofNat k) x) bad (fun n k hk => ?_) (fun n => ?_) 4 0 4096 (by decide) (by decide)
    · have hin : qm_inb (Int32.ofNat k) 4 = true := qv_inT k 4 hk (by decide)
      obtain ⟨b, e71, hb⟩ := qh_71 hM hS hk ha
      have hbb : b = bad k := by
        have hiff : b = true ↔ bad k = true := by
          rw [hb, hbad]
          by_cases c : 0 < qN (y 41 0 k)
          · rw [qh_ab hS c]
            constructor
            · rintro ⟨p, hp, g⟩
              exact ⟨c, fun g2 => (g2 p hp).1 g⟩
            · rintro ⟨-, g⟩
              refine Classical.byContradiction (fun g2 => g (fun p hp => ⟨fun g3 => g2 ⟨p, hp, g3⟩, Or.inr (hno p hp)⟩))
          · constructor
            · rintro ⟨i, -, g, -⟩; exact absurd g.1.1 c
            · rintro ⟨g, -⟩; exact absurd g c
        cases b <;> cases hbk : bad k <;> simp_all
      subst hbb
      show qf70_55 (n + 1) a (Int32.ofNat k) x = _
      unfold qf70_55
      rw [qv_g4 k hk, cond_false, if_pos hin, qv_tN k (by omega), e71, Option.bind_some, qv_eq0, qv_s1]
      cases bad k <;> cases n <;> rfl
    · show qf70_55 (n + 1) a (Int32.ofNat 4) x = _
      unfold qf70_55
      rw [qv_e4, cond_true]
  obtain ⟨r, hr, e⟩ := qv_loop (fun n k (a : Int32) => qf70_5 n a (Int32.ofNat k) x) 8 (fun k a => qh_m a (fun p => ∃ s, s < k ∧ y 45 0 s = Int32.ofNat p) ∧ ∀ p, p < 16 → qh_n (qh_sa y p) k < 2) (fun r => r = qh_o (qh_f bad 4 0))
    (by
      rintro n k a hk ⟨hI, hI2⟩
      have hin : qm_inb (Int32.ofNat k) 8 = true := qv_inT k 8 hk (by decide)
      have d1 := (hD.1 k).1
      have hnk : ∀ p, ¬ y 45 0 k = Int32.ofNat p → qh_n (qh_sa y p) (k + 1) = qh_n (qh_sa y p) k := by
        intro p g
        show qh_n (qh_sa y p) k + (if qh_sa y p k = true then 1 else 0) = _
        rw [if_neg (fun g2 => g ((hsa p k).mp g2)), Nat.add_zero]
      rcases (hD.2 k hk).1 with hp | ⟨p, hp, ep⟩
      · right
        have hne : ∀ q, q < 16 → ¬ y 45 0 k = Int32.ofNat q := fun q hq g => by rw [hp] at g; exact qv_mm q (by omega) g.symm
        refine ⟨a, ?_, fun q hq => (hI q hq).trans ⟨?_, ?_⟩, fun q hq => by rw [hnk q (hne q hq)]; exact hI2 q hq⟩
        · unfold qf70_5
          rw [qv_g8 k hk, cond_false, if_pos hin, qv_tN k (by omega), d1, hp, show qm_cmp .ne (-1 : Int32) (-1) = false by decide, cond_false]
          unfold qf70_30
          rw [Int32.and_zero, Int32.or_zero, qu_00T, cond_true, qv_s1]
          cases n <;> rfl
        · rintro ⟨s, h1, h2⟩; exact ⟨s, by omega, h2⟩
        · rintro ⟨s, h1, h2⟩
          have : s ≠ k := fun e => hne q hq (e ▸ h2)
          exact ⟨s, by omega, h2⟩
      · have hx := d1.trans ep
        have hun : qf70_5 (n + 1) a (Int32.ofNat k) x = (bif qm_cmp .eq (a &&& qh_bit p) 0 then qf70_5 n (a ||| qh_bit p) (Int32.ofNat (k + 1)) x else some 0) := by
          show (bif qm_cmp .ge (Int32.ofNat k) 8 then _ else _) = _
          rw [qv_g8 k hk, cond_false, if_pos hin, qv_tN k (by omega), hx, qv_ne, decide_eq_true (qv_mm p (by omega)), cond_true, if_pos hin]
          unfold qf70_30
          rw [qv_s1]
          rfl
        by_cases d : a &&& qh_bit p = 0
        · right
          have hnz : ¬ ∃ s, s < k ∧ y 45 0 s = Int32.ofNat p := fun g => (hI p hp).mpr g d
          refine ⟨a ||| qh_bit p, by rw [hun, qv_eq, decide_eq_true d, cond_true], qh_mo hI hp (fun q hq => ?_), fun q hq => ?_⟩
          · constructor
            · rintro ⟨s, h1, h2⟩
              by_cases e : s = k
              · subst e; rw [ep] at h2; exact Or.inr (qv_mi p q h2 (by omega) (by omega)).symm
              · exact Or.inl ⟨s, by omega, h2⟩
            · rintro (⟨s, h1, h2⟩ | g)
              · exact ⟨s, by omega, h2⟩
              · exact ⟨k, by omega, by rw [g]; exact ep⟩
          · by_cases e : q = p
            · subst e
              have h0 : qh_n (qh_sa y q) k = 0 := by
                rcases Nat.eq_zero_or_pos (qh_n (qh_sa y q) k) with g | g
                · exact g
                · obtain ⟨s, h1, h2⟩ := (qh_n1 k).mp g
                  exact absurd ⟨s, h1, (hsa q s).mp h2⟩ hnz
              show qh_n (qh_sa y q) k + (if qh_sa y q k = true then 1 else 0) < 2
              rw [h0]
              by_cases c : qh_sa y q k = true
              · rw [if_pos c]; omega
              · rw [if_neg c]; omega
            · rw [hnk q (fun g => e (qv_mi q p (g.symm.trans ep) (by omega) (by omega)))]
              exact hI2 q hq
        · left
          refine ⟨0, by rw [hun, qv_eq, decide_eq_false d, cond_false], ?_⟩
          obtain ⟨s, h1, h2⟩ := (hI p hp).mp d
          have hb0 : bad 0 = true := by
            rw [hbad]
            refine ⟨hP0, fun g => ?_⟩
            have h3 := (g p hp).2
            have h4 : 1 < qh_n (qh_sa y p) 8 := (qh_n2 8).mpr ⟨s, k, h1, hk, (hsa p s).mpr h2, (hsa p k).mpr ep⟩
            omega
          show (0 : Int32) = qh_o (bif bad 0 then some 0 else _)
          rw [hb0]; rfl)
    (by
      rintro n a ⟨hI, hI2⟩
      refine ⟨_, ?_, rfl⟩
      unfold qf70_5
      rw [qv_e8, cond_true]
      exact hmodes a hI hI2) 4096 0 0 (by decide) (by decide) ⟨fun p hp => ⟨fun g => absurd Int32.zero_and g, fun ⟨s, h, _⟩ => absurd h (Nat.not_lt_zero _)⟩, fun p hp => by show 0 < 2; omega⟩
  rw [← e]
  unfold qf70
  exact hr
/-- a task or a mode that was found -/
theorem qh_92 {k j : Nat} (hj : j < 8) (s : qp_S) : qf50_92 (Int32.ofNat k) (Int32.ofNat j) s = some (Int32.ofNat (100 * k + j), s) ∧ qf50_75 (Int32.ofNat k) (Int32.ofNat j) s = some (Int32.ofNat (100 * k + j), s) ∧ qf50_60 (Int32.ofNat k) (Int32.ofNat j) s = some (Int32.ofNat (100 * k + j), s) ∧ qf50_43 (Int32.ofNat k) (Int32.ofNat j) s = some (Int32.ofNat (100 * k + j), s) ∧ qf50_28 (Int32.ofNat k) (Int32.ofNat j) s = some (Int32.ofNat (100 * k + j), s) := by
  have hne : qm_cmp .ne (Int32.ofNat j) (-1) = true := by rw [qv_ne]; exact decide_eq_true (qv_mm j (by omega))
  have h1 : qf50_92 (Int32.ofNat k) (Int32.ofNat j) s = some (Int32.ofNat (100 * k + j), s) := by
    unfold qf50_92
    rw [hne, cond_true, show (100 : Int32) = Int32.ofNat 100 from rfl, qv_mul, qv_add]
  have h2 : qf50_75 (Int32.ofNat k) (Int32.ofNat j) s = some (Int32.ofNat (100 * k + j), s) := by
    unfold qf50_75
    rw [hne, cond_true]; exact h1
  have h3 : qf50_60 (Int32.ofNat k) (Int32.ofNat j) s = some (Int32.ofNat (100 * k + j), s) := by
    unfold qf50_60
    rw [hne, cond_true]; exact h2
  have h4 : qf50_43 (Int32.ofNat k) (Int32.ofNat j) s = some (Int32.ofNat (100 * k + j), s) := by
    unfold qf50_43
    rw [hne, cond_true]; exact h3
  have h5 : qf50_28 (Int32.ofNat k) (Int32.ofNat j) s = some (Int32.ofNat (100 * k + j), s) := by
    unfold qf50_28
    rw [hne, cond_true]; exact h4
  exact ⟨h1, h2, h3, h4, h5⟩
theorem qh_bo {P : Prop} {b : Bool} (h : b = true ↔ P) : ∃ c, (c = true ↔ ¬ P) ∧ c = !b := ⟨!b, by cases b <;> simp_all, rfl⟩
/-- the modes' faults on both sides -/
theorem qh_modes {x y : qp_S} {r : Bool} {T B c n : Nat} (h : qa x y r T B c n) (hs : ∀ t, t < 8 → qk_U y t → qk_S y t) : ∃ F, F ≤ 700 ∧ ((qf66 x).bind fun q3 => qf50_43 3 q3 x) = some (Int32.ofNat F, x) ∧ (bif qm_cmp .ne (y 41 0 0) (0 : Int32) then qf128_26 4096 (3 : Int32) y else some ((300 : Int32), y)) = some (Int32.ofNat F, y) ∧ (F = 0 → qa_ok y ∧ 0 < qN (y 41 0 0)) := by
  have l0 : (0:Int32).toInt = 0 := rfl; have l1 : (1:Int32).toInt = 1 := rfl; have lm : (-1:Int32).toInt = -1 := rfl; have l3 : (3:Int32).toInt = 3 := rfl; have l4 : (4:Int32).toInt = 4 := rfl; have l5 : (5:Int32).toInt = 5 := rfl; have l6 : (6:Int32).toInt = 6 := rfl; have l7 : (7:Int32).toInt = 7 := rfl; have l8 : (8:Int32).toInt = 8 := rfl; have l15 : (15:Int32).toInt = 15 := rfl; have l16 : (16:Int32).toInt = 16 := rfl; have l32 : (32:Int32).toInt = 32 := rfl
  obtain ⟨hB, hW, hS, hP, hM, hG, hD, hE, hK, hJ, hZ⟩ := h
  obtain ⟨u1, -, u3, -, u5, -⟩ := qh_mf hM (show 0 < 4 by decide) (show 0 < 8 by decide)
  have t0 := qv_tI (qN (y 41 0 0)) (by omega)
  have hin0 : qm_inb (0 : Int32) 4 = true := by decide
  by_cases c0 : 0 < qN (y 41 0 0)
  · have e66 : qf66 x = qf66_13 4096 0 x := by
      unfold qf66 qf67
      rw [if_pos hin0, show (0 : Int32).toNatClampNeg = 0 from rfl, u5, qu_neT (by omega)]
      rfl
    have e128 : (bif qm_cmp .ne (y 41 0 0) (0 : Int32) then qf128_26 4096 (3 : Int32) y else some ((300 : Int32), y)) = qf128_26 4096 3 y := by
      rw [u3, qu_neT (by omega), cond_true]
    rw [e66, e128]
    obtain ⟨b3, h3⟩ : ∃ bad : Nat → Bool, ∀ m, bad m = true ↔ qh_b3 y m := ⟨fun m => @decide (qh_b3 y m) (Classical.propDecidable _), fun m => by simp⟩
    obtain ⟨b4, h4⟩ : ∃ bad : Nat → Bool, ∀ m, bad m = true ↔ qh_b4 y m := ⟨fun m => @decide (qh_b4 y m) (Classical.propDecidable _), fun m => by simp⟩
    obtain ⟨b5, h5⟩ : ∃ bad : Nat → Bool, ∀ m, bad m = true ↔ qh_b5 y m := ⟨fun m => @decide (qh_b5 y m) (Classical.propDecidable _), fun m => by simp⟩
    obtain ⟨b6, h6⟩ : ∃ bad : Nat → Bool, ∀ m, bad m = true ↔ (0 < qN (y 41 0 m) ∧ ¬ qh_S y m 8 ≤ 20 * qN (y 41 0 m)) := ⟨fun m => @decide (0 < qN (y 41 0 m) ∧ ¬ qh_S y m 8 ≤ 20 * qN (y 41 0 m)) (Classical.propDecidable _), fun m => by simp⟩
    have hff : ∀ (bad : Nat → Bool) (m : Nat), (¬ bad m = true) → bad m = false := fun bad m g => by
      cases hb : bad m with
      | true => exact absurd hb g
      | false => rfl
    have hnb : ∀ (b c : Bool) (P : Prop), (b = true ↔ P) → (c = true ↔ ¬ P) → b = !c := by
      intro b c P hb hc
      by_cases g : P
      · have := hb.mpr g
        subst this
        cases c
        · rfl
        · exact absurd g (hc.mp rfl)
      · have := hc.mpr g
        subst this
        cases b
        · rfl
        · exact absurd (hb.mp rfl) g
    have hsame : ∀ (b c : Bool) (P : Prop), (b = true ↔ P) → (c = true ↔ P) → b = c := by
      intro b c P hb hc
      cases b with
      | true => exact (hc.mpr (hb.mp rfl)).symm
      | false =>
        cases c with
        | true => exact hb.mpr (hc.mp rfl)
        | false => rfl
    -- the class's searches
    have c3 : qf66_13 4096 0 x = some (qh_o (qh_f b3 4 0)) := by
      refine qh_cl (fun n k => qf66_13 n (Int32.ofNat k) x) b3 (fun n k hk => ?_) (fun n => ?_) 4 0 4096 (by decide) (by decide)
      · obtain ⟨b, e68, hb⟩ := qh_68 hM hk
        obtain rfl := hsame b (b3 k) _ hb (h3 k)
        show qf66_13 (n + 1) (Int32.ofNat k) x = _
        unfold qf66_13
        rw [qv_g4 k hk, cond_false, if_pos (qv_inT k 4 hk (by decide)), qv_tN k (by omega), e68, Option.bind_some, qv_eq0, qv_s1]
        cases b3 k <;> cases n <;> rfl
      · show qf66_13 (n + 1) (Int32.ofNat 4) x = _
        unfold qf66_13
        rw [qv_e4, cond_true]
    have c4 := qh_70 hM hS hD c0 h4
    have c5 : qf72 x = some (qh_o (qh_f b5 4 0)) := by
      unfold qf72
      refine qh_cl (fun n k => qf72_2 n (Int32.ofNat k) x) b5 (fun n k hk => ?_) (fun n => ?_) 4 0 4096 (by decide) (by decide)
      · obtain ⟨v1, -, v3, -, v5, -⟩ := qh_mf hM hk (show 0 < 8 by decide)
        have tk := qv_tI (qN (y 41 0 k)) (by omega)
        obtain ⟨b, e73, hb⟩ := qh_73 hM hG hk
        have hin : qm_inb (Int32.ofNat k) 4 = true := qv_inT k 4 hk (by decide)
        show qf72_2 (n + 1) (Int32.ofNat k) x = _
        unfold qf72_2 qf67
        rw [qv_g4 k hk, cond_false, if_pos hin, qv_tN k (by omega), v5, qv_s1]
        by_cases cc : 0 < qN (y 41 0 k)
        · have hb5 : b5 k = b := by
            refine hsame _ _ _ (h5 k) (hb.trans ⟨fun g => ⟨cc, g⟩, fun g => g.2⟩)
          rw [qu_neT (by omega), cond_true, Option.bind_some, qu_n00, cond_false, if_pos hin, e73, Option.bind_some, qv_eq0, hb5]
          cases b <;> cases n <;> rfl
        · have hb5 : b5 k = false := hff b5 k (fun g => cc ((h5 k).mp g).1)
          rw [qu_neF (by omega), cond_false, Option.bind_some, qu_n10, cond_true, hb5]
          cases n <;> rfl
      · show qf72_2 (n + 1) (Int32.ofNat 4) x = _
        unfold qf72_2
        rw [qv_e4, cond_true]
    have c6 : qf74 x = some (qh_o (qh_f b6 4 0)) := by
      unfold qf74
      refine qh_cl (fun n k => qf74_2 n (Int32.ofNat k) x) b6 (fun n k hk => ?_) (fun n => ?_) 4 0 4096 (by decide) (by decide)
      · obtain ⟨b, e75, hb, hb0⟩ := qh_75 hB hM hk
        have hb6 : b6 k = b := by
          by_cases cc : 0 < qN (y 41 0 k)
          · exact hsame _ _ _ (h6 k) ((hb cc).trans ⟨fun g => ⟨cc, g⟩, fun g => g.2⟩)
          · rw [hb0 cc]
            exact hff b6 k (fun g => cc ((h6 k).mp g).1)
        show qf74_2 (n + 1) (Int32.ofNat k) x = _
        unfold qf74_2
        rw [qv_g4 k hk, cond_false, if_pos (qv_inT k 4 hk (by decide)), qv_tN k (by omega), e75, Option.bind_some, qv_eq0, qv_s1, hb6]
        cases b <;> cases n <;> rfl
      · show qf74_2 (n + 1) (Int32.ofNat 4) x = _
        unfold qf74_2
        rw [qv_e4, cond_true]
    -- the reference's
    have hbool : ∀ b : Bool, (if (qv_b b = 0 ∨ qv_b b = 1) then some (qv_b b) else none) = some (qv_b b) := fun b => by cases b <;> rfl
    have r3 : ∀ m, m < 4 → (0 < qN (y 41 0 m) → qf138 (Int32.ofNat 3) (Int32.ofNat m) y = some (qv_b (!b3 m))) ∧ (¬ 0 < qN (y 41 0 m) → b3 m = false) := by
      intro m hm
      refine ⟨fun g => ?_, fun g => hff b3 m (fun g2 => g ((h3 m).mp g2).1)⟩
      obtain ⟨b, e, hb⟩ := qh_139 hM hm g
      have : b = !b3 m := by
        have := hnb (b3 m) b _ (h3 m) hb
        rw [this]; cases b <;> rfl
      subst this
      show ((qf139 (Int32.ofNat m) y).bind fun q2 => (if (q2 = 0 ∨ q2 = 1) then some q2 else none)) = _
      rw [e, Option.bind_some, hbool]
    have r4 : ∀ m, m < 4 → (0 < qN (y 41 0 m) → qf138 (Int32.ofNat 4) (Int32.ofNat m) y = some (qv_b (!b4 m))) ∧ (¬ 0 < qN (y 41 0 m) → b4 m = false) := by
      intro m hm
      refine ⟨fun g => ?_, fun g => hff b4 m (fun g2 => g ((h4 m).mp g2).1)⟩
      obtain ⟨b, e, hb⟩ := qh_140 hM hm g
      have : b = !b4 m := by
        have := hnb (b4 m) b _ (h4 m) hb
        rw [this]; cases b <;> rfl
      subst this
      show ((qf140 (Int32.ofNat m) y).bind fun q2 => (if (q2 = 0 ∨ q2 = 1) then some q2 else none)) = _
      rw [e, Option.bind_some, hbool]
    have r5 : ∀ m, m < 4 → (0 < qN (y 41 0 m) → qf138 (Int32.ofNat 5) (Int32.ofNat m) y = some (qv_b (!b5 m))) ∧ (¬ 0 < qN (y 41 0 m) → b5 m = false) := by
      intro m hm
      refine ⟨fun g => ?_, fun g => hff b5 m (fun g2 => g ((h5 m).mp g2).1)⟩
      obtain ⟨b, e, hb⟩ := qh_143 hM hG hm
      have : b = !b5 m := by
        have := hnb (b5 m) b _ (h5 m) (hb.trans ⟨fun z z2 => z2.2 z, fun z => Classical.byContradiction (fun z2 => z ⟨g, z2⟩)⟩)
        rw [this]; cases b <;> rfl
      subst this
      show ((qf143 (Int32.ofNat m) y).bind fun q2 => (if (q2 = 0 ∨ q2 = 1) then some q2 else none)) = _
      rw [e, Option.bind_some, hbool]
    have n1 : ∀ j, qm_cmp .ne (Int32.ofNat j) (-1) = true ∨ ¬ j < 8 := fun j => by
      by_cases g : j < 8
      · left; rw [qv_ne]; exact decide_eq_true (qv_mm j (by omega))
      · exact Or.inr g
    have hm1 : qm_cmp .ne (-1 : Int32) (-1) = false := by decide
    have e26 : ∀ nn k, k < 7 → qf128_26 (nn + 1) (Int32.ofNat k) y = qf128_34 (qf128_26 nn) 4096 (Int32.ofNat k) (Int32.ofNat 0) y := by
      intro nn k hk
      have tk := qv_tI k (by omega)
      have l7 : (7:Int32).toInt = 7 := rfl
      show (bif qm_cmp .ge (Int32.ofNat k) 7 then _ else _) = _
      rw [qu_geF (by omega), cond_false]; rfl
    have g3 := qh_rf hM (qf128_26 4095) 3 b3 r3 4 0 4096 (by decide) (by decide)
    have g4 := qh_rf hM (qf128_26 4094) 4 b4 r4 4 0 4096 (by decide) (by decide)
    have g5 := qh_rf hM (qf128_26 4093) 5 b5 r5 4 0 4096 (by decide) (by decide)
    have q3 : qf128_26 4096 3 y = _ := (e26 4095 3 (by decide)).trans g3
    rw [c3, Option.bind_some, q3]
    cases f3 : qh_f b3 4 0 with
    | some j =>
      obtain ⟨-, hj, hbj⟩ := qh_fs 4 0 j f3
      exact ⟨300 + j, by omega, (qh_92 (k := 3) (by omega) x).2.2.2.1, rfl, fun g => by omega⟩
    | none =>
      have hn3 := qh_fn 4 0 f3
      have q4 : qf128_26 4095 (Int32.ofNat (3 + 1)) y = _ := (e26 4094 4 (by decide)).trans g4
      show ∃ F, F ≤ 700 ∧ qf50_43 3 (-1) x = _ ∧ qf128_26 4095 (Int32.ofNat (3 + 1)) y = _ ∧ _
      rw [q4]
      unfold qf50_43
      rw [hm1, cond_false, c4, Option.bind_some]
      cases f4 : qh_f b4 4 0 with
      | some j =>
        obtain ⟨-, hj, hbj⟩ := qh_fs 4 0 j f4
        exact ⟨400 + j, by omega, (qh_92 (k := 4) (by omega) x).2.2.1, rfl, fun g => by omega⟩
      | none =>
        have q5 : qf128_26 4094 (Int32.ofNat (4 + 1)) y = _ := (e26 4093 5 (by decide)).trans g5
        show ∃ F, F ≤ 700 ∧ qf50_60 4 (-1) x = _ ∧ qf128_26 4094 (Int32.ofNat (4 + 1)) y = _ ∧ _
        rw [q5]
        unfold qf50_60
        rw [hm1, cond_false, c5, Option.bind_some]
        cases f5 : qh_f b5 4 0 with
        | some j =>
          obtain ⟨-, hj, hbj⟩ := qh_fs 4 0 j f5
          exact ⟨500 + j, by omega, (qh_92 (k := 5) (by omega) x).2.1, rfl, fun g => by omega⟩
        | none =>
          have hn5 := qh_fn 4 0 f5
          have hdv : ∀ m, m < 4 → 0 < qN (y 41 0 m) → ∀ t, t < 8 → 0 < qN (y 42 0 (8 * m + t)) → qN (y 42 0 (8 * m + t)) ∣ qN (y 41 0 m) := by
            intro m hm g
            refine Classical.byContradiction (fun g2 => ?_)
            have := (h3 m).mpr ⟨g, g2⟩
            rw [hn3 m (by omega) (by omega)] at this; cases this
          have r6 : ∀ m, m < 4 → (0 < qN (y 41 0 m) → qf138 (Int32.ofNat 6) (Int32.ofNat m) y = some (qv_b (!b6 m))) ∧ (¬ 0 < qN (y 41 0 m) → b6 m = false) := by
            intro m hm
            refine ⟨fun g => ?_, fun g => hff b6 m (fun g2 => g ((h6 m).mp g2).1)⟩
            obtain ⟨rr, e, b, eb, hb⟩ := qh_144 hB hM hm
            subst eb
            rw [qh_time g (hdv m hm g)] at hb
            have : b = !b6 m := by
              have := hnb (b6 m) b _ (h6 m) (hb.trans ⟨fun z z2 => z2.2 z, fun z => Classical.byContradiction (fun z2 => z ⟨g, z2⟩)⟩)
              rw [this]; cases b <;> rfl
            subst this
            show ((qf144 (Int32.ofNat m) y).bind fun q2 => (if (q2 = 0 ∨ q2 = 1) then some q2 else none)) = _
            rw [e, Option.bind_some, hbool]
          have g6 := qh_rf hM (qf128_26 4092) 6 b6 r6 4 0 4096 (by decide) (by decide)
          have q6 : qf128_26 4093 (Int32.ofNat (5 + 1)) y = _ := (e26 4092 6 (by decide)).trans g6
          show ∃ F, F ≤ 700 ∧ qf50_75 5 (-1) x = _ ∧ qf128_26 4093 (Int32.ofNat (5 + 1)) y = _ ∧ _
          rw [q6]
          unfold qf50_75
          rw [hm1, cond_false, c6, Option.bind_some]
          cases f6 : qh_f b6 4 0 with
          | some j =>
            obtain ⟨-, hj, hbj⟩ := qh_fs 4 0 j f6
            exact ⟨600 + j, by omega, (qh_92 (k := 6) (by omega) x).1, rfl, fun g => by omega⟩
          | none =>
            refine ⟨0, by omega, rfl, rfl, fun _ => ⟨⟨fun m t hm ht g g2 => hdv m hm g t ht g2, fun m g hm hg gp => ?_, hs⟩, c0⟩⟩
            refine Classical.byContradiction (fun g2 => ?_)
            have := (h5 m).mpr ⟨gp, fun g3 => g2 (g3 g hg)⟩
            rw [hn5 m (by omega) (by omega)] at this; cases this
  · have e0 : qN (y 41 0 0) = 0 := by omega
    rw [e0] at u3 u5
    refine ⟨300, by omega, ?_, ?_, fun g => by omega⟩
    · have e66 : qf66 x = some (Int32.ofNat 0) := by
        unfold qf66 qf67
        rw [if_pos hin0, show (0 : Int32).toNatClampNeg = 0 from rfl, u5]
        rfl
      rw [e66, Option.bind_some]
      exact (qh_92 (k := 3) (j := 0) (by omega) x).2.2.2.1
    · rw [u3]; rfl
