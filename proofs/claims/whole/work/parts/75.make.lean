def qc_nM (n : Nat → Nat) : Nat → Nat → Nat
  | 0 => n
  | t + 1 => qc_b (qp_bump (qp_bump (qp_bump (qc_nM n t) 22) 23) 24) 25 4
theorem qc_nMf (n : Nat → Nat) (t : Nat) : qc_nM n t 22 = n 22 + t ∧ qc_nM n t 23 = n 23 + t ∧ qc_nM n t 24 = n 24 + t ∧ qc_nM n t 25 = n 25 + 4 * t := by
  induction t with
  | zero => exact ⟨rfl, rfl, rfl, rfl⟩
  | succ t ih =>
    obtain ⟨h1, h2, h3, h4⟩ := ih
    simp [qc_nM, qc_b, qp_bump, h1, h2, h3, h4]
    omega
theorem qc_ws0 (s : qp_S) (k t j : Nat) (v : Int32) : qp_up (qc_w s k 0 t j v) k t j v = qc_w s k 0 (t + 1) j v := by
  have h := qc_ws s k 0 t j v
  rw [Nat.zero_add] at h
  exact h
theorem qc0_106 {ro : Nat → Nat × (Nat → Int32)} (d : Nat) {n : Nat → Nat} {s : qp_S} {P : Nat → Nat → Nat → Prop} {F : qm_O → qm_H → qm_C → Prop} (hnP : ¬ P 1 0 1) (h21 : n 21 = 0) : ∀ (r t : Nat) (h : qm_H) (k1 k2 : Nat), r + t = 16 → qc_P (qc_b n 21 t) (s) (fun a b c => P a b c ∨ (a = 3 ∧ b = 0 ∧ t ≤ c ∧ c < 16)) h →
    (∀ h1, qc_P (qc_b n 21 16) (s) P h1 → qc_W ro (d + 3) 0 F (131, [some (vR 1 0), some (vI (Int32.ofNat 16))], [], h1, (k1 + 1 * r, k2 + 3 * r))) →
    qc_W ro (d + 3) 0 F (106, [some (vR 1 0), some (vI (Int32.ofNat t))], [], h, (k1, k2)) := by
  intro r
  induction r with
  | zero =>
    intro t h k1 k2 hrt hP kk
    obtain rfl : t = 16 := by omega
    iterate 2 refine qc_next rfl ?_
    refine qc_t (b := qm_cmp .ge (Int32.ofNat 16) (Int32.ofNat 16)) (by rw [qi_ge (by omega) (by omega)]; decide) rfl ?_
    exact kk h (hP.weak fun a b c hq => hq.elim id fun hz => absurd hz.2.2 (by omega))
  | succ r ih =>
    intro t h k1 k2 hrt hP kk
    skip
    iterate 2 refine qc_next rfl ?_
    refine qc_f (b := qm_cmp .ge (Int32.ofNat t) (Int32.ofNat 16)) (by rw [qi_ge (by omega) (by omega)]; exact decide_eq_false (by omega)) rfl ?_
    refine qc_next rfl ?_
    refine qc_get (k := 1) (i := 0) (j := 1) (v := vR 3 0) hP rfl (fun hq => hq.elim hnP (fun hz => absurd hz.1 (by decide))) rfl ?_
    refine qc_next rfl ?_
    refine qc_newI (k := 21) (i := t) hP rfl (by unfold qc_b; rw [if_pos rfl]; omega) (by decide) fun h1 hP1 => ?_
    refine qc_next rfl ?_
    rw [qc_bs] at hP1
    refine qc_call rfl (qc7 (d + 1) t hP1) (fun o h1 c1 hG => hG.1) fun h2 c2 hG => ?_
    obtain ⟨-, rfl, hP2⟩ := hG
    refine qc_aast (k := 2) (i := 0) (t := t) hP2 (show t < 16 by omega) rfl rfl rfl rfl rfl rfl rfl fun h3 hP3 => ?_
    iterate 2 refine qc_next rfl ?_
    have e1 : Int32.ofNat t + 1 = Int32.ofNat (t + 1) := qi_add t 1
    have hJ := ih (t + 1) h3 (k1 + 1) (k2 + 3) (by omega) (hP3.weak fun a b c hq => by
      obtain ⟨q0 | q1, q3⟩ := hq
      · exact Or.inl q0
      · refine Or.inr ⟨q1.1, q1.2.1, ?_, q1.2.2.2⟩
        rcases Nat.eq_or_lt_of_le q1.2.2.1 with e | e
        · exact absurd ⟨q1.1, q1.2.1, e.symm⟩ q3
        · exact e) (fun h1 hP1 => by
      have := kk h1 hP1
      rw [show k1 + 1 * (r + 1) = k1 + 1 + 1 * r by omega, show k2 + 3 * (r + 1) = k2 + 3 + 3 * r by omega] at this
      exact this)
    rw [← e1] at hJ
    exact hJ
theorem qc0_133 {ro : Nat → Nat × (Nat → Int32)} (d : Nat) {n : Nat → Nat} {s : qp_S} {P : Nat → Nat → Nat → Prop} {F : qm_O → qm_H → qm_C → Prop} (hnP : ¬ P 1 0 2) (h22 : n 22 = 0) (h23 : n 23 = 0) (h24 : n 24 = 0) (h25 : n 25 = 0) : ∀ (r t : Nat) (h : qm_H) (k1 k2 : Nat), r + t = 4 → qc_P (qc_nM n t) (s) (fun a b c => P a b c ∨ (a = 4 ∧ b = 0 ∧ t ≤ c ∧ c < 4)) h →
    (∀ h1, qc_P (qc_nM n 4) (s) P h1 → qc_W ro (d + 3) 0 F (157, [some (vR 1 0), some (vI (Int32.ofNat 4))], [], h1, (k1 + 7 * r, k2 + 32 * r))) →
    qc_W ro (d + 3) 0 F (133, [some (vR 1 0), some (vI (Int32.ofNat t))], [], h, (k1, k2)) := by
  intro r
  induction r with
  | zero =>
    intro t h k1 k2 hrt hP kk
    obtain rfl : t = 4 := by omega
    iterate 2 refine qc_next rfl ?_
    refine qc_t (b := qm_cmp .ge (Int32.ofNat 4) (Int32.ofNat 4)) (by rw [qi_ge (by omega) (by omega)]; decide) rfl ?_
    exact kk h (hP.weak fun a b c hq => hq.elim id fun hz => absurd hz.2.2 (by omega))
  | succ r ih =>
    intro t h k1 k2 hrt hP kk
    obtain ⟨f1, f2, f3, f4⟩ := qc_nMf n t
    iterate 2 refine qc_next rfl ?_
    refine qc_f (b := qm_cmp .ge (Int32.ofNat t) (Int32.ofNat 4)) (by rw [qi_ge (by omega) (by omega)]; exact decide_eq_false (by omega)) rfl ?_
    refine qc_next rfl ?_
    refine qc_get (k := 1) (i := 0) (j := 2) (v := vR 4 0) hP rfl (fun hq => hq.elim hnP (fun hz => absurd hz.1 (by decide))) rfl ?_
    refine qc_next rfl ?_
    refine qc_new (k := 22) (i := t) hP rfl (by omega) fun h1 hP1 => ?_
    refine qc_next rfl ?_
    refine qc_call rfl (qc8 (d + 0) t hP1 (by show qc_nM n t 23 = t; omega) (by show qc_nM n t 24 = t; omega) (by show qc_nM n t 25 = 4 * t; omega)) (fun o h1 c1 hG => hG.1) fun h2 c2 hG => ?_
    obtain ⟨-, rfl, hP2⟩ := hG
    refine qc_aast (k := 3) (i := 0) (t := t) hP2 (show t < 4 by omega) rfl rfl rfl rfl rfl rfl rfl fun h3 hP3 => ?_
    iterate 2 refine qc_next rfl ?_
    have e1 : Int32.ofNat t + 1 = Int32.ofNat (t + 1) := qi_add t 1
    have hJ := ih (t + 1) h3 (k1 + 7) (k2 + 32) (by omega) (hP3.weak fun a b c hq => by
      obtain ⟨⟨(q0 | q1) | ⟨r1, r2, r3, r4⟩, q2⟩, q3⟩ := hq
      · exact Or.inl q0
      · refine Or.inr ⟨q1.1, q1.2.1, ?_, q1.2.2.2⟩
        rcases Nat.eq_or_lt_of_le q1.2.2.1 with e | e
        · exact absurd ⟨q1.1, q1.2.1, e.symm⟩ q3
        · exact e
      · exfalso
        refine q2 ⟨r1, r2, ?_⟩
        have r3 : c < 4 := r3
        have hc : c = 0 ∨ c = 1 ∨ c = 2 ∨ c = 3 := by omega
        rcases hc with rfl | rfl | rfl | rfl <;> first | (exact absurd r4 (by decide)) | omega) (fun h1 hP1 => by
      have := kk h1 hP1
      rw [show k1 + 7 * (r + 1) = k1 + 7 + 7 * r by omega, show k2 + 32 * (r + 1) = k2 + 32 + 32 * r by omega] at this
      exact this)
    rw [← e1] at hJ
    exact hJ
theorem qc0_159 {ro : Nat → Nat × (Nat → Int32)} (d : Nat) {n : Nat → Nat} {s : qp_S} {P : Nat → Nat → Nat → Prop} {F : qm_O → qm_H → qm_C → Prop} (hnP : ¬ P 1 0 5) (h26 : n 26 = 0) : ∀ (r t : Nat) (h : qm_H) (k1 k2 : Nat), r + t = 8 → qc_P (qc_b n 26 t) (qc_w s 26 0 t 0 (-1)) (fun a b c => P a b c ∨ (a = 7 ∧ b = 0 ∧ t ≤ c ∧ c < 8)) h →
    (∀ h1, qc_P (qc_b n 26 8) (qc_w s 26 0 8 0 (-1)) P h1 → qc_W ro (d + 3) 0 F (184, [some (vR 1 0), some (vI (Int32.ofNat 8))], [], h1, (k1 + 1 * r, k2 + 3 * r))) →
    qc_W ro (d + 3) 0 F (159, [some (vR 1 0), some (vI (Int32.ofNat t))], [], h, (k1, k2)) := by
  intro r
  induction r with
  | zero =>
    intro t h k1 k2 hrt hP kk
    obtain rfl : t = 8 := by omega
    iterate 2 refine qc_next rfl ?_
    refine qc_t (b := qm_cmp .ge (Int32.ofNat 8) (Int32.ofNat 8)) (by rw [qi_ge (by omega) (by omega)]; decide) rfl ?_
    exact kk h (hP.weak fun a b c hq => hq.elim id fun hz => absurd hz.2.2 (by omega))
  | succ r ih =>
    intro t h k1 k2 hrt hP kk
    skip
    iterate 2 refine qc_next rfl ?_
    refine qc_f (b := qm_cmp .ge (Int32.ofNat t) (Int32.ofNat 8)) (by rw [qi_ge (by omega) (by omega)]; exact decide_eq_false (by omega)) rfl ?_
    refine qc_next rfl ?_
    refine qc_get (k := 1) (i := 0) (j := 5) (v := vR 7 0) hP rfl (fun hq => hq.elim hnP (fun hz => absurd hz.1 (by decide))) rfl ?_
    refine qc_next rfl ?_
    refine qc_newI (k := 26) (i := t) hP rfl (by unfold qc_b; rw [if_pos rfl]; omega) (by decide) fun h1 hP1 => ?_
    refine qc_next rfl ?_
    rw [qc_bs] at hP1
    refine qc_call rfl (qc10 (d + 1) t hP1 (by unfold qc_b; rw [if_pos rfl]; omega)) (fun o h1 c1 hG => hG.1) fun h2 c2 hG => ?_
    obtain ⟨-, rfl, hP2⟩ := hG
    rw [qc_ws0] at hP2
    refine qc_aast (k := 6) (i := 0) (t := t) hP2 (show t < 8 by omega) rfl rfl rfl rfl rfl rfl rfl fun h3 hP3 => ?_
    iterate 2 refine qc_next rfl ?_
    have e1 : Int32.ofNat t + 1 = Int32.ofNat (t + 1) := qi_add t 1
    have hJ := ih (t + 1) h3 (k1 + 1) (k2 + 3) (by omega) (hP3.weak fun a b c hq => by
      obtain ⟨q0 | q1, q3⟩ := hq
      · exact Or.inl q0
      · refine Or.inr ⟨q1.1, q1.2.1, ?_, q1.2.2.2⟩
        rcases Nat.eq_or_lt_of_le q1.2.2.1 with e | e
        · exact absurd ⟨q1.1, q1.2.1, e.symm⟩ q3
        · exact e) (fun h1 hP1 => by
      have := kk h1 hP1
      rw [show k1 + 1 * (r + 1) = k1 + 1 + 1 * r by omega, show k2 + 3 * (r + 1) = k2 + 3 + 3 * r by omega] at this
      exact this)
    rw [← e1] at hJ
    exact hJ
