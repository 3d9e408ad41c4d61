/-! an instant: the mode's period ends -/
def qi_sel (p : Nat → Bool) (t : Nat → Int32) (d : Int32) : Nat → Nat → Int32
  | 0, _ => d
  | m + 1, k => bif p k then t k else qi_sel p t d m (k + 1)
theorem qi_sel1 {p : Nat → Bool} {t : Nat → Int32} (d : Int32) : ∀ m k, (∀ j, k ≤ j → j < k + m → t j ≠ -1) → qi_sel p t d m k = (if qi_sel p t (-1) m k = -1 then d else qi_sel p t (-1) m k) := by
  intro m
  induction m with
  | zero => intro k h; unfold qi_sel; rw [if_pos rfl]
  | succ m ih =>
    intro k h
    unfold qi_sel
    cases p k with
    | true => rw [cond_true, cond_true, if_neg (h k (by omega) (by omega))]
    | false => rw [cond_false, cond_false]; exact ih (k + 1) (fun j h1 h2 => h j (by omega) (by omega))
theorem qi_sel2 {p : Nat → Bool} {t : Nat → Int32} {d : Int32} {Q : Int32 → Prop} : ∀ m k, (∀ j, k ≤ j → j < k + m → Q (t j)) → Q d → Q (qi_sel p t d m k) := by
  intro m
  induction m with
  | zero => intro k h hd; exact hd
  | succ m ih =>
    intro k h hd
    unfold qi_sel
    cases p k with
    | true => exact h k (by omega) (by omega)
    | false => exact ih (k + 1) (fun j h1 h2 => h j (by omega) (by omega)) hd
theorem qi_86 {x : qp_S} {c g : Nat} {p : Nat → Bool} (hg : g ≤ 4) (e : x 22 c 1 = Int32.ofNat g) (hp : ∀ k, k < g → qm_inb (x 25 (4 * c + k) 0) 16 = true ∧ qf87 (4 * c + k) (x 21 (x 25 (4 * c + k) 0).toNatClampNeg 2) x = some (qv_b (p k))) : ∀ m n k, k + m = g → m < n → qf86_2 n c (Int32.ofNat k) x = some (qi_sel p (fun k => x 25 (4 * c + k) 3) (-1) m k) := by
  have l0 : (0:Int32).toInt = 0 := rfl; have l1 : (1:Int32).toInt = 1 := rfl; have lm : (-1:Int32).toInt = -1 := rfl; have l3 : (3:Int32).toInt = 3 := rfl; have l4 : (4:Int32).toInt = 4 := rfl; have l5 : (5:Int32).toInt = 5 := rfl; have l6 : (6:Int32).toInt = 6 := rfl; have l7 : (7:Int32).toInt = 7 := rfl; have l8 : (8:Int32).toInt = 8 := rfl; have l15 : (15:Int32).toInt = 15 := rfl; have l16 : (16:Int32).toInt = 16 := rfl; have l32 : (32:Int32).toInt = 32 := rfl
  have tg := qv_tI g (by omega)
  intro m
  induction m with
  | zero =>
    intro n k h1 h2
    obtain ⟨n, rfl⟩ : ∃ z, n = z + 1 := ⟨n - 1, by omega⟩
    have tk := qv_tI k (by omega)
    simp (disch := first | omega | assumption | decide) only [qf86_2, e, qu_ltT, qu_ltF, qu_gtT, qu_gtF, qu_geT, qu_geF, qu_leT, qu_leF, qu_eqT, qu_eqF, qu_neT, qu_neF, qu_inT, qu_24T, qu_24F, qu_116T, qu_116F, qu_13T, qu_13F, qu_25T, qu_25F, qu_26T, qu_26F, qu_117a, qu_117b, qu_117c, qu_117d, qu_10F, qu_00T, qu_n10, qu_n00, Option.bind_some, cond_true, cond_false, if_true, qv_tN]
    rfl
  | succ m ih =>
    intro n k h1 h2
    obtain ⟨n, rfl⟩ : ∃ z, n = z + 1 := ⟨n - 1, by omega⟩
    have tk := qv_tI k (by omega)
    obtain ⟨p1, p2⟩ := hp k (by omega)
    have hih := ih n (k + 1) (by omega) (by omega)
    unfold qi_sel
    simp (disch := first | omega | assumption | decide) only [qf86_2, e, qu_ltT, qu_ltF, qu_gtT, qu_gtF, qu_geT, qu_geF, qu_leT, qu_leF, qu_eqT, qu_eqF, qu_neT, qu_neF, qu_inT, qu_24T, qu_24F, qu_116T, qu_116F, qu_13T, qu_13F, qu_25T, qu_25F, qu_26T, qu_26F, qu_117a, qu_117b, qu_117c, qu_117d, qu_10F, qu_00T, qu_n10, qu_n00, Option.bind_some, cond_true, cond_false, if_true, qv_tN, p1, p2, qv_eq0, qv_s1, hih]
    cases p k <;> rfl
theorem qi_155 {y : qp_S} {c g : Nat} {p : Nat → Bool} {d : Int32} (hc : c < 4) (hg : g ≤ 4) (e : y 30 0 22 = Int32.ofNat c) (hp : ∀ k, k < g → qf156 (Int32.ofNat (16 * c + 4 * k)) y = some (qv_b (p k))) : ∀ j n a, j < n → j ≤ g → a = qi_sel p (fun k => y 43 0 (16 * c + 4 * k + 3)) d (g - j) j → qf155_46 n a (Int32.ofNat j - 1) y = some (0, qp_up (qp_up y 30 0 22 (qi_sel p (fun k => y 43 0 (16 * c + 4 * k + 3)) d g 0)) 30 0 23 (y 30 0 21)) := by
  have l0 : (0:Int32).toInt = 0 := rfl; have l1 : (1:Int32).toInt = 1 := rfl; have lm : (-1:Int32).toInt = -1 := rfl; have l3 : (3:Int32).toInt = 3 := rfl; have l4 : (4:Int32).toInt = 4 := rfl; have l5 : (5:Int32).toInt = 5 := rfl; have l6 : (6:Int32).toInt = 6 := rfl; have l7 : (7:Int32).toInt = 7 := rfl; have l8 : (8:Int32).toInt = 8 := rfl; have l15 : (15:Int32).toInt = 15 := rfl; have l16 : (16:Int32).toInt = 16 := rfl; have l32 : (32:Int32).toInt = 32 := rfl
  intro j
  induction j with
  | zero =>
    intro n a h1 h2 ha
    obtain ⟨n, rfl⟩ : ∃ z, n = z + 1 := ⟨n - 1, by omega⟩
    have e1 : qm_cmp .lt (Int32.ofNat 0 - 1) 0 = true := by decide
    have e2 : (qp_up y 30 0 22 a) 30 0 21 = y 30 0 21 := rfl
    subst ha
    simp (disch := first | omega | assumption | decide) only [qf155_46, e1, cond_true, Nat.sub_zero]
    rfl
  | succ j ih =>
    intro n a h1 h2 ha
    obtain ⟨n, rfl⟩ : ∃ z, n = z + 1 := ⟨n - 1, by omega⟩
    have tj := qv_tI j (by omega)
    have p1 := hp j (by omega)
    have hs : qi_sel p (fun k => y 43 0 (16 * c + 4 * k + 3)) d (g - j) j = bif p j then y 43 0 (16 * c + 4 * j + 3) else a := by
      rw [ha, show g - j = (g - (j + 1)) + 1 by omega]
      rfl
    have e5 : Int32.ofNat j + -1 = Int32.ofNat j - 1 := (Int32.sub_eq_add_neg _ _).symm
    have hin : qm_inb (Int32.ofNat (16 * c + 4 * j + 3)) 64 = true := qv_inT _ _ (by omega) (by decide)
    rw [qx_m1]
    simp (disch := first | omega | assumption | decide) only [qf155_46, e, qu_ltT, qu_ltF, qu_gtT, qu_gtF, qu_geT, qu_geF, qu_leT, qu_leF, qu_eqT, qu_eqF, qu_neT, qu_neF, qu_inT, qu_24T, qu_24F, qu_116T, qu_116F, qu_13T, qu_13F, qu_25T, qu_25F, qu_26T, qu_26F, qu_117a, qu_117b, qu_117c, qu_117d, qu_10F, qu_00T, qu_n10, qu_n00, Option.bind_some, cond_true, cond_false, if_true, qv_tN, qv_c6, qv_c4, qv_c8, qv_c32, qv_d4, qv_d16, qv_f4, qv_a1, qv_a2, qv_a3, qv_add, qv_inT, p1, qv_eq0, hin, e5]
    cases hpj : p j with
    | true =>
      rw [hpj] at hs
      exact ih n _ (by omega) (by omega) hs.symm
    | false =>
      rw [hpj] at hs
      exact ih n _ (by omega) (by omega) hs.symm
/-- a guard -/
theorem qi_g {x y : qp_S} {n p : Nat} (hn : n < 16) (hp : p < 16) (e0 : y 43 0 (4 * n) = Int32.ofNat p) (e1 : x 25 n 1 = y 43 0 (4 * n + 1)) (e2 : x 25 n 2 = y 43 0 (4 * n + 2)) (e3 : x 21 p 2 = y 40 0 p) : ∃ b, qf87 n (x 21 p 2) x = some (qv_b b) ∧ qf156 (Int32.ofNat (4 * n)) y = some (qv_b b) := by
  have l0 : (0:Int32).toInt = 0 := rfl; have l1 : (1:Int32).toInt = 1 := rfl; have lm : (-1:Int32).toInt = -1 := rfl; have l3 : (3:Int32).toInt = 3 := rfl; have l4 : (4:Int32).toInt = 4 := rfl; have l5 : (5:Int32).toInt = 5 := rfl; have l6 : (6:Int32).toInt = 6 := rfl; have l7 : (7:Int32).toInt = 7 := rfl; have l8 : (8:Int32).toInt = 8 := rfl; have l15 : (15:Int32).toInt = 15 := rfl; have l16 : (16:Int32).toInt = 16 := rfl; have l32 : (32:Int32).toInt = 32 := rfl
  have hr : qf156 (Int32.ofNat (4 * n)) y = qf87 n (x 21 p 2) x := by
    unfold qf87
    rw [e1, e2, e3]
    simp (disch := first | omega | assumption | decide) only [qf156, qu_ltT, qu_ltF, qu_gtT, qu_gtF, qu_geT, qu_geF, qu_leT, qu_leF, qu_eqT, qu_eqF, qu_neT, qu_neF, qu_inT, qu_24T, qu_24F, qu_116T, qu_116F, qu_13T, qu_13F, qu_25T, qu_25F, qu_26T, qu_26F, qu_117a, qu_117b, qu_117c, qu_117d, qu_10F, qu_00T, qu_n10, qu_n00, Option.bind_some, cond_true, cond_false, if_true, qv_tN, qv_c6, qv_c4, qv_c8, qv_c32, qv_d4, qv_d16, qv_f4, qv_a1, qv_a2, qv_a3, qv_add, qv_inT, e0]
  rw [hr]
  have hb : ∀ q : Bool, ∃ b, (bif q then some (0 : Int32) else some 1) = some (qv_b b) := by
    intro q; cases q
    · exact ⟨true, rfl⟩
    · exact ⟨false, rfl⟩
  suffices hh : ∃ b, qf87 n (x 21 p 2) x = some (qv_b b) by
    obtain ⟨b, hb⟩ := hh
    exact ⟨b, hb, hb⟩
  unfold qf87
  by_cases c0 : (x 25 n 1).toInt < 0 ∨ 4 < (x 25 n 1).toInt
  · rw [decide_eq_true c0, cond_true]; exact hb _
  · rw [decide_eq_false c0, cond_false]
    obtain ⟨w, hw, ew⟩ := qv_ex (a := x 25 n 1) (N := 5) (by omega) (by omega)
    have : w = 0 ∨ w = 1 ∨ w = 2 ∨ w = 3 ∨ w = 4 := by omega
    rw [ew]
    rcases this with e | e | e | e | e <;> subst e
    · exact hb (qm_cmp .ge (x 21 p 2) (x 25 n 2))
    · exact hb (qm_cmp .gt (x 21 p 2) (x 25 n 2))
    · exact hb (qm_cmp .ne (x 21 p 2) (x 25 n 2))
    · exact hb (qm_cmp .eq (x 21 p 2) (x 25 n 2))
    · exact hb (qm_cmp .lt (x 21 p 2) (x 25 n 2))
theorem qi_turn {x y : qp_S} {T B c n : Nat} (h : qb x y T B c n (fun _ => True)) (hTP : T ≤ B + qN (y 41 0 c)) (ht : ∀ t, t < 8 → y 50 0 t = 1 → qb_T y T B c t 1) : ∃ x' y' B' c', qf85 x = some (0, x') ∧ qf155 y = some (0, y') ∧ qb x' y' T B' c' n (fun _ => True) ∧ T < B' + qN (y' 41 0 c') ∧ (∀ t, t < 8 → y' 50 0 t = 1 → qb_T y' T B' c' t 1) ∧ qfr [1] x x' ∧ qfr [30] y y' := by
  have l0 : (0:Int32).toInt = 0 := rfl; have l1 : (1:Int32).toInt = 1 := rfl; have lm : (-1:Int32).toInt = -1 := rfl; have l3 : (3:Int32).toInt = 3 := rfl; have l4 : (4:Int32).toInt = 4 := rfl; have l5 : (5:Int32).toInt = 5 := rfl; have l6 : (6:Int32).toInt = 6 := rfl; have l7 : (7:Int32).toInt = 7 := rfl; have l8 : (8:Int32).toInt = 8 := rfl; have l15 : (15:Int32).toInt = 15 := rfl; have l16 : (16:Int32).toInt = 16 := rfl; have l32 : (32:Int32).toInt = 32 := rfl
  obtain ⟨hP60, eP, eP2⟩ := qb_P h
  obtain ⟨hB, hW, hS, hP, hM, hG, hD, hE, hK, hJ, hZ⟩ := h
  obtain ⟨z1, z2, z3, z4, z5, z6⟩ := hZ
  obtain ⟨k1, k2, k3, k4, k5, k6, k7, k8, k9, k10⟩ := hK
  have tT := qv_tI T (by omega)
  have tc := qv_tI c (by omega)
  have tTB := qv_tI (T - B) (by omega)
  have tP := qv_tI (qN (y 41 0 c)) (by omega)
  have eTB : Int32.ofNat T - Int32.ofNat B = Int32.ofNat (T - B) := qv_sub T B z2
  by_cases hend : T = B + qN (y 41 0 c)
  · -- it ends: no job is left
    have hno : ∀ t, t < 8 → ¬ y 50 0 t = 1 := by
      intro t htt g
      obtain ⟨q, hq, w1, w2, -⟩ := ht t htt g
      have := qb_span (P := qN (y 41 0 c)) hq
      omega
    obtain ⟨pp, g, g1, g2, g3, g4⟩ := hM.2.2.1 c z3
    have eg : qN (y 44 0 c) = g := by rw [g4]; exact qv_tN g (by omega)
    have hgx : x 22 c 1 = Int32.ofNat g := (hM.1 c).2.trans g4
    have hgd : ∀ k, k < g → ∃ b, (qm_inb (x 25 (4 * c + k) 0) 16 = true ∧ qf87 (4 * c + k) (x 21 (x 25 (4 * c + k) 0).toNatClampNeg 2) x = some (qv_b b)) ∧ qf156 (Int32.ofNat (16 * c + 4 * k)) y = some (qv_b b) := by
      intro k hk
      obtain ⟨p, t, hp, htt, e1, e2⟩ := hG.2 (4 * c + k) (by omega)
      have f0 := hG.1 (4 * c + k) 0 (by omega) (by omega)
      have f1 := hG.1 (4 * c + k) 1 (by omega) (by omega)
      have f2 := hG.1 (4 * c + k) 2 (by omega) (by omega)
      obtain ⟨b, hb1, hb2⟩ := qi_g (x := x) (y := y) (by omega) hp e1 f1 f2 (hP p).2.2.1
      have f3 : x 25 (4 * c + k) 0 = Int32.ofNat p := f0.trans e1
      refine ⟨b, ⟨?_, ?_⟩, ?_⟩
      · rw [f3]; exact qv_inT p 16 hp (by decide)
      · rw [f3, qv_tN p (by omega)]; exact hb1
      · rw [show 16 * c + 4 * k = 4 * (4 * c + k) by omega]; exact hb2
    obtain ⟨p, hp⟩ : ∃ p : Nat → Bool, ∀ k, k < g → (qm_inb (x 25 (4 * c + k) 0) 16 = true ∧ qf87 (4 * c + k) (x 21 (x 25 (4 * c + k) 0).toNatClampNeg 2) x = some (qv_b (p k))) ∧ qf156 (Int32.ofNat (16 * c + 4 * k)) y = some (qv_b (p k)) := by
      refine ⟨fun k => decide (qf156 (Int32.ofNat (16 * c + 4 * k)) y = some 1), fun k hk => ?_⟩
      obtain ⟨b, hb1, hb2⟩ := hgd k hk
      have : decide (qf156 (Int32.ofNat (16 * c + 4 * k)) y = some 1) = b := by
        rw [hb2]; cases b <;> decide
      dsimp only
      rw [this]; exact ⟨hb1, hb2⟩
    have htx : (fun k => x 25 (4 * c + k) 3) = fun k => x 25 (4 * c + k) 3 := rfl
    have hto : ∀ k, k < g → x 25 (4 * c + k) 3 = y 43 0 (16 * c + 4 * k + 3) := by
      intro k hk
      rw [hG.1 (4 * c + k) 3 (by omega) (by omega), show 4 * (4 * c + k) + 3 = 16 * c + 4 * k + 3 by omega]
    have hsel : ∀ d m k, k + m ≤ g → qi_sel p (fun k => x 25 (4 * c + k) 3) d m k = qi_sel p (fun k => y 43 0 (16 * c + 4 * k + 3)) d m k := by
      intro d m
      induction m with
      | zero => intro k _; rfl
      | succ m ih =>
        intro k hk
        unfold qi_sel
        rw [ih (k + 1) (by omega), hto k (by omega)]
    have hcx := qi_86 (p := p) g2 hgx (fun k hk => (hp k hk).1) g 4096 0 (by omega) (by omega)
    have hcy := qi_155 (p := p) (d := Int32.ofNat c) z3 g2 k6 (fun k hk => (hp k hk).2) g 4096 (Int32.ofNat c) (by omega) (by omega) (by rw [Nat.sub_self]; rfl)
    rw [hsel (-1) g 0 (by omega)] at hcx
    have hto2 : ∀ j, 0 ≤ j → j < 0 + g → ∃ m, m < 4 ∧ y 43 0 (16 * c + 4 * j + 3) = Int32.ofNat m ∧ 0 < qN (y 41 0 m) := by
      intro j _ hj
      obtain ⟨p', t, hp', htt, e1, e2⟩ := hG.2 (4 * c + j) (by omega)
      rw [show 4 * (4 * c + j) + 3 = 16 * c + 4 * j + 3 by omega] at e2
      have := z4.2.1 c j z3 (by omega) z5
      rw [e2, show qN (Int32.ofNat t) = t from qv_tN t (by omega)] at this
      exact ⟨t, htt, e2, this⟩
    obtain ⟨c', hc', ec', hPc'⟩ : ∃ m, m < 4 ∧ qi_sel p (fun k => y 43 0 (16 * c + 4 * k + 3)) (Int32.ofNat c) g 0 = Int32.ofNat m ∧ 0 < qN (y 41 0 m) := qi_sel2 (Q := fun v => ∃ m, m < 4 ∧ v = Int32.ofNat m ∧ 0 < qN (y 41 0 m)) g 0 hto2 ⟨c, z3, rfl, z5⟩
    have hs1 := qi_sel1 (p := p) (t := fun k => y 43 0 (16 * c + 4 * k + 3)) (Int32.ofNat c) g 0 (by
      intro j h1 h2
      obtain ⟨m, hm, e, -⟩ := hto2 j h1 h2
      rw [e]; exact qv_mm m (by omega))
    rw [ec'] at hs1 hcy
    refine ⟨qp_up (qp_up x 1 0 10 (Int32.ofNat c')) 1 0 11 (Int32.ofNat T), qp_up (qp_up y 30 0 22 (Int32.ofNat c')) 30 0 23 (Int32.ofNat T), T, c', ?_, ?_, ⟨hB, hW, hS, hP, hM, hG, hD, hE, ⟨k1, k2, k3, k4, rfl, rfl, rfl, rfl, k9, k10⟩, hJ, z1, Nat.le_refl _, hc', z4, hPc', z6⟩, ?_, fun t htt g => absurd g (hno t htt), qfr_up (by decide) (qfr_up (by decide) qfr_r), qfr_up (by decide) (qfr_up (by decide) qfr_r)⟩
    · have e1 : qf86 c x = some (qi_sel p (fun k => y 43 0 (16 * c + 4 * k + 3)) (-1) g 0) := hcx
      have e3 : ∀ v, (qp_up x 1 0 10 v) 1 0 9 = Int32.ofNat T := fun v => k3
      by_cases hm : qi_sel p (fun k => y 43 0 (16 * c + 4 * k + 3)) (-1) g 0 = -1
      · rw [if_pos hm] at hs1
        rw [hm] at e1
        have e2 : qm_cmp .ne (-1 : Int32) (-1) = false := by decide
        simp (disch := first | omega | assumption | decide) only [qf85, k5, k3, k7, eTB, eP2, e1, e2, e3, qu_ltT, qu_ltF, qu_gtT, qu_gtF, qu_geT, qu_geF, qu_leT, qu_leF, qu_eqT, qu_eqF, qu_neT, qu_neF, qu_inT, qu_24T, qu_24F, qu_116T, qu_116F, qu_13T, qu_13F, qu_25T, qu_25F, qu_26T, qu_26F, qu_117a, qu_117b, qu_117c, qu_117d, qu_10F, qu_00T, qu_n10, qu_n00, Option.bind_some, cond_true, cond_false, if_true, qv_tN, qv_c6, qv_c4, qv_c8, qv_c32, qv_d4, qv_d16, qv_f4, qv_a1, qv_a2, qv_a3, qv_add, qv_inT]
        rw [hs1]
      · rw [if_neg hm] at hs1
        rw [← hs1] at e1
        have e2 : qm_cmp .ne (Int32.ofNat c') (-1) = true := by rw [qv_ne]; exact decide_eq_true (qv_mm c' (by omega))
        simp (disch := first | omega | assumption | decide) only [qf85, k5, k3, k7, eTB, eP2, e1, e2, e3, qu_ltT, qu_ltF, qu_gtT, qu_gtF, qu_geT, qu_geF, qu_leT, qu_leF, qu_eqT, qu_eqF, qu_neT, qu_neF, qu_inT, qu_24T, qu_24F, qu_116T, qu_116F, qu_13T, qu_13F, qu_25T, qu_25F, qu_26T, qu_26F, qu_117a, qu_117b, qu_117c, qu_117d, qu_10F, qu_00T, qu_n10, qu_n00, Option.bind_some, cond_true, cond_false, if_true, qv_tN, qv_c6, qv_c4, qv_c8, qv_c32, qv_d4, qv_d16, qv_f4, qv_a1, qv_a2, qv_a3, qv_add, qv_inT]
    · rw [k4] at hcy
      have tg := qv_tI g (by omega)
      unfold qf155
      rw [k4, k6, k8, qv_tN c (by omega), g4, eTB, eP]
      simp (disch := first | omega | assumption | decide) only [qu_ltT, qu_ltF, qu_gtT, qu_gtF, qu_geT, qu_geF, qu_leT, qu_leF, qu_eqT, qu_eqF, qu_neT, qu_neF, qu_inT, qu_24T, qu_24F, qu_116T, qu_116F, qu_13T, qu_13F, qu_25T, qu_25F, qu_26T, qu_26F, qu_117a, qu_117b, qu_117c, qu_117d, qu_10F, qu_00T, qu_n10, qu_n00, Option.bind_some, cond_true, cond_false, if_true, qv_tN, qv_c6, qv_c4, qv_c8, qv_c32, qv_d4, qv_d16, qv_f4, qv_a1, qv_a2, qv_a3, qv_add, qv_inT]
      exact hcy
    · show T < T + qN (y 41 0 c')
      omega
  · have hlt : T < B + qN (y 41 0 c) := by omega
    refine ⟨x, y, B, c, ?_, ?_, ⟨hB, hW, hS, hP, hM, hG, hD, hE, ⟨k1, k2, k3, k4, k5, k6, k7, k8, k9, k10⟩, hJ, z1, z2, z3, z4, z5, z6⟩, hlt, ht, qfr_r, qfr_r⟩
    · simp (disch := first | omega | assumption | decide) only [qf85, k5, k3, k7, eTB, eP2, qu_ltT, qu_ltF, qu_gtT, qu_gtF, qu_geT, qu_geF, qu_leT, qu_leF, qu_eqT, qu_eqF, qu_neT, qu_neF, qu_inT, qu_24T, qu_24F, qu_116T, qu_116F, qu_13T, qu_13F, qu_25T, qu_25F, qu_26T, qu_26F, qu_117a, qu_117b, qu_117c, qu_117d, qu_10F, qu_00T, qu_n10, qu_n00, Option.bind_some, cond_true, cond_false, if_true, qv_tN, qv_c6, qv_c4, qv_c8, qv_c32, qv_d4, qv_d16, qv_f4, qv_a1, qv_a2, qv_a3, qv_add, qv_inT]
    · unfold qf155
      rw [k4, k6, k8, qv_tN c (by omega), eTB, eP]
      by_cases hT0 : T = 0
      · simp (disch := first | omega | assumption | decide) only [qu_ltT, qu_ltF, qu_gtT, qu_gtF, qu_geT, qu_geF, qu_leT, qu_leF, qu_eqT, qu_eqF, qu_neT, qu_neF, qu_inT, qu_24T, qu_24F, qu_116T, qu_116F, qu_13T, qu_13F, qu_25T, qu_25F, qu_26T, qu_26F, qu_117a, qu_117b, qu_117c, qu_117d, qu_10F, qu_00T, qu_n10, qu_n00, Option.bind_some, cond_true, cond_false, if_true, qv_tN, qv_c6, qv_c4, qv_c8, qv_c32, qv_d4, qv_d16, qv_f4, qv_a1, qv_a2, qv_a3, qv_add, qv_inT]
      · simp (disch := first | omega | assumption | decide) only [qu_ltT, qu_ltF, qu_gtT, qu_gtF, qu_geT, qu_geF, qu_leT, qu_leF, qu_eqT, qu_eqF, qu_neT, qu_neF, qu_inT, qu_24T, qu_24F, qu_116T, qu_116F, qu_13T, qu_13F, qu_25T, qu_25F, qu_26T, qu_26F, qu_117a, qu_117b, qu_117c, qu_117d, qu_10F, qu_00T, qu_n10, qu_n00, Option.bind_some, cond_true, cond_false, if_true, qv_tN, qv_c6, qv_c4, qv_c8, qv_c32, qv_d4, qv_d16, qv_f4, qv_a1, qv_a2, qv_a3, qv_add, qv_inT]
