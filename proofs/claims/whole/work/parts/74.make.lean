/-! the kernel's loops of makings -/
def qc_nT (n : Nat → Nat) : Nat → Nat → Nat
  | 0 => n
  | t + 1 => qc_n4 (qp_bump (qc_nT n t) 14)
def qc_sT (s : qp_S) : Nat → qp_S
  | 0 => s
  | t + 1 => qc_s4 (qc_sT s t) t
theorem qc_nTf (n : Nat → Nat) (t : Nat) : qc_nT n t 14 = n 14 + t ∧ qc_nT n t 15 = n 15 + t ∧ qc_nT n t 16 = n 16 + 6 * t ∧ qc_nT n t 17 = n 17 + t ∧ qc_nT n t 18 = n 18 + t ∧ qc_nT n t 19 = n 19 + t ∧ qc_nT n t 20 = n 20 + t := by
  induction t with
  | zero => exact ⟨rfl, rfl, rfl, rfl, rfl, rfl, rfl⟩
  | succ t ih =>
    obtain ⟨h1, h2, h3, h4, h5, h6, h7⟩ := ih
    simp [qc_nT, qc_n4, qc_b, qp_bump, h1, h2, h3, h4, h5, h6, h7]
    omega
theorem qc0_79 {ro : Nat → Nat × (Nat → Int32)} (d : Nat) {n : Nat → Nat} {s : qp_S} {P : Nat → Nat → Nat → Prop} {F : qm_O → qm_H → qm_C → Prop} (hnP : ¬ P 1 0 0) (h14 : n 14 = 0) (h15 : n 15 = 0) (h16 : n 16 = 0) (h17 : n 17 = 0) (h18 : n 18 = 0) (h19 : n 19 = 0) (h20 : n 20 = 0) : ∀ (r t : Nat) (h : qm_H) (k1 k2 : Nat), r + t = 8 → qc_P (qc_nT n t) (qc_sT s t) (fun a b c => P a b c ∨ (a = 2 ∧ b = 0 ∧ t ≤ c ∧ c < 8)) h →
    (∀ h1, qc_P (qc_nT n 8) (qc_sT s 8) P h1 → qc_W ro (d + 3) 0 F (104, [some (vR 1 0), some (vI (Int32.ofNat 8))], [], h1, (k1 + 12 * r, k2 + 81 * r))) →
    qc_W ro (d + 3) 0 F (79, [some (vR 1 0), some (vI (Int32.ofNat t))], [], h, (k1, k2)) := by
  intro r
  induction r with
  | zero =>
    intro t h k1 k2 hrt hP kk
    obtain rfl : t = 8 := by omega
    iterate 2 refine qc_next rfl ?_
    refine qc_t (b := qm_cmp .ge (Int32.ofNat 8) (Int32.ofNat 8)) (by rw [qi_ge (by omega) (by omega)]; decide) rfl ?_
    exact kk h (hP.weak fun a b c hq => hq.elim id fun hz => absurd hz.2.2 (by omega))
  | succ r ih =>
    intro t h k1 k2 hrt hP kk
    obtain ⟨f1, f2, f3, f4, f5, f6, f7⟩ := qc_nTf n t
    iterate 2 refine qc_next rfl ?_
    refine qc_f (b := qm_cmp .ge (Int32.ofNat t) (Int32.ofNat 8)) (by rw [qi_ge (by omega) (by omega)]; exact decide_eq_false (by omega)) rfl ?_
    refine qc_next rfl ?_
    refine qc_get (k := 1) (i := 0) (j := 0) (v := vR 2 0) hP rfl (fun hq => hq.elim hnP (fun hz => absurd hz.1 (by decide))) rfl ?_
    refine qc_next rfl ?_
    refine qc_new (k := 14) (i := t) hP rfl (by omega) fun h1 hP1 => ?_
    refine qc_next rfl ?_
    refine qc_call rfl (qc4 (d + 0) t hP1 (by show t < qc_nT n t 14 + 1; omega) (by show qc_nT n t 15 = t; omega) (by show qc_nT n t 16 = 6 * t; omega) (by show qc_nT n t 17 = t; omega) (by show qc_nT n t 18 = t; omega) (by show qc_nT n t 19 = t; omega) (by show qc_nT n t 20 = t; omega)) (fun o h1 c1 hG => hG.1) fun h2 c2 hG => ?_
    obtain ⟨-, rfl, hP2⟩ := hG
    refine qc_aast (k := 1) (i := 0) (t := t) hP2 (show t < 8 by omega) rfl rfl rfl rfl rfl rfl rfl fun h3 hP3 => ?_
    iterate 2 refine qc_next rfl ?_
    have e1 : Int32.ofNat t + 1 = Int32.ofNat (t + 1) := qi_add t 1
    have hJ := ih (t + 1) h3 (k1 + 12) (k2 + 81) (by omega) (hP3.weak fun a b c hq => by
      obtain ⟨⟨(q0 | q1) | ⟨r1, r2, r3, r4⟩, q2⟩, q3⟩ := hq
      · exact Or.inl q0
      · refine Or.inr ⟨q1.1, q1.2.1, ?_, q1.2.2.2⟩
        rcases Nat.eq_or_lt_of_le q1.2.2.1 with e | e
        · exact absurd ⟨q1.1, q1.2.1, e.symm⟩ q3
        · exact e
      · exfalso
        refine q2 ⟨r1, r2, ?_⟩
        have r3 : c < 11 := r3
        have hc : c = 0 ∨ c = 1 ∨ c = 2 ∨ c = 3 ∨ c = 4 ∨ c = 5 ∨ c = 6 ∨ c = 7 ∨ c = 8 ∨ c = 9 ∨ c = 10 := by omega
        rcases hc with rfl | rfl | rfl | rfl | rfl | rfl | rfl | rfl | rfl | rfl | rfl <;> first | (exact absurd r4 (by decide)) | omega) (fun h1 hP1 => by
      have := kk h1 hP1
      rw [show k1 + 12 * (r + 1) = k1 + 12 + 12 * r by omega, show k2 + 81 * (r + 1) = k2 + 81 + 81 * r by omega] at this
      exact this)
    rw [← e1] at hJ
    exact hJ
