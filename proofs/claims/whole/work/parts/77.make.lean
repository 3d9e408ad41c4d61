/-- the kernel -/
def qc_nK (n : Nat → Nat) : Nat → Nat := qp_bump (qp_bump (qp_bump (qp_bump (qp_bump (qp_bump (qp_bump (qp_bump (qp_bump (qp_bump (qp_bump (qp_bump n 2) 3) 4) 5) 6) 7) 8) 9) 10) 11) 12) 13
def qc_n0 (n : Nat → Nat) : Nat → Nat := qc_b (qc_nM (qc_b (qc_nT (qc_nK n) 8) 21 16) 4) 26 8
def qc_s0 (s : qp_S) : qp_S := qc_v (qc_w (qc_sT s 8) 26 0 8 0 (-1)) 5 0 8 (-1)
theorem qc0 {ro : Nat → Nat × (Nat → Int32)} (d : Nat) {n : Nat → Nat} {s : qp_S} {P : Nat → Nat → Nat → Prop} {h : qm_H} (hP : qc_P n s P h) (hn : ∀ k, 2 ≤ k → k ≤ 26 → n k = 0) :
    qc_W ro (d + 3) 0 (fun o h1 c1 => o = .inl none ∧ c1 = (160, 2170) ∧ qc_P (qc_n0 n) (qc_s0 s) (fun a b c => P a b c ∧ ¬ (a = 1 ∧ b = 0 ∧ c < 8)) h1) (0, qm_ent 0 [vR 1 0], [], h, (0, 0)) := by
  refine qc_next rfl ?_
  refine qc_obj rfl rfl rfl rfl (Nat.le_of_ble_eq_true rfl) ?_
  iterate 2 refine qc_next rfl ?_
  refine qc_new hP rfl (hn 2 (by decide) (by decide)) fun h1 hP1 => ?_
  refine qc_putR hP1 rfl rfl fun h2 hP2 => ?_
  iterate 2 refine qc_next rfl ?_
  refine qc_new hP2 rfl (hn 3 (by decide) (by decide)) fun h3 hP3 => ?_
  refine qc_putR hP3 rfl rfl fun h4 hP4 => ?_
  iterate 2 refine qc_next rfl ?_
  refine qc_new hP4 rfl (hn 4 (by decide) (by decide)) fun h5 hP5 => ?_
  refine qc_putR hP5 rfl rfl fun h6 hP6 => ?_
  iterate 2 refine qc_next rfl ?_
  refine qc_newI hP6 rfl (hn 5 (by decide) (by decide)) (fun j _ => by show ¬ (0 = 1); decide) fun h7 hP7 => ?_
  refine qc_putR hP7 rfl rfl fun h8 hP8 => ?_
  iterate 2 refine qc_next rfl ?_
  refine qc_newI hP8 rfl (hn 6 (by decide) (by decide)) (fun j _ => by show ¬ (0 = 1); decide) fun h9 hP9 => ?_
  refine qc_putR hP9 rfl rfl fun h10 hP10 => ?_
  iterate 2 refine qc_next rfl ?_
  refine qc_new hP10 rfl (hn 7 (by decide) (by decide)) fun h11 hP11 => ?_
  refine qc_putR hP11 rfl rfl fun h12 hP12 => ?_
  refine qc_next rfl ?_
  refine qc_new hP12 rfl (hn 8 (by decide) (by decide)) fun h13 hP13 => ?_
  refine qc_next rfl ?_
  refine qc_call rfl (qc1 (d + 1) hP13 (hn 9 (by decide) (by decide))) (fun o h1 c1 hG => hG.1) fun h14 c14 hG => ?_
  obtain ⟨-, rfl, hP14⟩ := hG
  refine qc_putR hP14 rfl rfl fun h15 hP15 => ?_
  refine qc_next rfl ?_
  refine qc_new hP15 rfl (hn 10 (by decide) (by decide)) fun h16 hP16 => ?_
  refine qc_next rfl ?_
  refine qc_call rfl (qc2 (d + 0) hP16 (hn 11 (by decide) (by decide)) (hn 12 (by decide) (by decide)) (hn 13 (by decide) (by decide))) (fun o h1 c1 hG => hG.1) fun h17 c17 hG => ?_
  obtain ⟨-, rfl, hP17⟩ := hG
  refine qc_putR hP17 rfl rfl fun h18 hP18 => ?_
  iterate 2 refine qc_next rfl ?_
  have hP18 : qc_P (qc_nK n) s (fun a b c => ((((P a b c ∧ ¬ (a = 1 ∧ b = 0 ∧ c < 8)) ∨ (a = 7 ∧ b = 0 ∧ 0 ≤ c ∧ c < 8)) ∨ (a = 4 ∧ b = 0 ∧ 0 ≤ c ∧ c < 4)) ∨ (a = 3 ∧ b = 0 ∧ 0 ≤ c ∧ c < 16)) ∨ (a = 2 ∧ b = 0 ∧ 0 ≤ c ∧ c < 8)) h18 := hP18.weak fun a b c hq => by
    obtain ⟨⟨⟨⟨⟨⟨⟨⟨⟨⟨q0 | m2, p0⟩ | m3, p1⟩ | m4, p2⟩, p3⟩, p4⟩ | m7, p5⟩ | m8, p8⟩, p6⟩ | m10, p10⟩, p7⟩ := hq
    · refine Or.inl (Or.inl (Or.inl (Or.inl ⟨q0, fun hz => ?_⟩)))
      obtain ⟨z1, z2, z3⟩ := hz
      have hc : c = 0 ∨ c = 1 ∨ c = 2 ∨ c = 3 ∨ c = 4 ∨ c = 5 ∨ c = 6 ∨ c = 7 := by omega
      rcases hc with e | e | e | e | e | e | e | e
      · exact p0 ⟨z1, z2, e⟩
      · exact p1 ⟨z1, z2, e⟩
      · exact p2 ⟨z1, z2, e⟩
      · exact p3 ⟨z1, z2, e⟩
      · exact p4 ⟨z1, z2, e⟩
      · exact p5 ⟨z1, z2, e⟩
      · exact p6 ⟨z1, z2, e⟩
      · exact p7 ⟨z1, z2, e⟩
    · exact Or.inr ⟨m2.1, m2.2.1, Nat.zero_le _, m2.2.2.1⟩
    · exact Or.inl (Or.inr ⟨m3.1, m3.2.1, Nat.zero_le _, m3.2.2.1⟩)
    · exact Or.inl (Or.inl (Or.inr ⟨m4.1, m4.2.1, Nat.zero_le _, m4.2.2.1⟩))
    · exact Or.inl (Or.inl (Or.inl (Or.inr ⟨m7.1, m7.2.1, Nat.zero_le _, m7.2.2.1⟩)))
    · exfalso
      obtain ⟨z1, z2, z3, z4⟩ := m8
      have z3 : c < 2 := z3
      have hc : c = 0 ∨ c = 1 := by omega
      rcases hc with rfl | rfl
      · exact p8 ⟨z1, z2, rfl⟩
      · exact absurd z4 (by decide)
    · exfalso
      obtain ⟨z1, z2, z3, z4⟩ := m10
      have z3 : c < 1 := z3
      exact p10 ⟨z1, z2, by omega⟩
  refine qc0_79 (d := d) (n := qc_nK n) (s := s) (P := fun a b c => (((P a b c ∧ ¬ (a = 1 ∧ b = 0 ∧ c < 8)) ∨ (a = 7 ∧ b = 0 ∧ 0 ≤ c ∧ c < 8)) ∨ (a = 4 ∧ b = 0 ∧ 0 ≤ c ∧ c < 4)) ∨ (a = 3 ∧ b = 0 ∧ 0 ≤ c ∧ c < 16)) (by simp) (hn 14 (by decide) (by decide)) (hn 15 (by decide) (by decide)) (hn 16 (by decide) (by decide)) (hn 17 (by decide) (by decide)) (hn 18 (by decide) (by decide)) (hn 19 (by decide) (by decide)) (hn 20 (by decide) (by decide)) 8 0 h18 12 1322 rfl hP18 fun h19 hP19 => ?_
  iterate 2 refine qc_next rfl ?_
  refine qc0_106 (d := d) (n := qc_nT (qc_nK n) 8) (s := qc_sT s 8) (P := fun a b c => ((P a b c ∧ ¬ (a = 1 ∧ b = 0 ∧ c < 8)) ∨ (a = 7 ∧ b = 0 ∧ 0 ≤ c ∧ c < 8)) ∨ (a = 4 ∧ b = 0 ∧ 0 ≤ c ∧ c < 4)) (by simp) (hn 21 (by decide) (by decide)) 16 0 h19 108 1970 rfl (by rw [qc_b0]; exact hP19) fun h20 hP20 => ?_
  iterate 2 refine qc_next rfl ?_
  refine qc0_133 (d := d) (n := qc_b (qc_nT (qc_nK n) 8) 21 16) (s := qc_sT s 8) (P := fun a b c => (P a b c ∧ ¬ (a = 1 ∧ b = 0 ∧ c < 8)) ∨ (a = 7 ∧ b = 0 ∧ 0 ≤ c ∧ c < 8)) (by simp) (hn 22 (by decide) (by decide)) (hn 23 (by decide) (by decide)) (hn 24 (by decide) (by decide)) (hn 25 (by decide) (by decide)) 4 0 h20 124 2018 rfl hP20 fun h21 hP21 => ?_
  iterate 2 refine qc_next rfl ?_
  refine qc0_159 (d := d) (n := qc_nM (qc_b (qc_nT (qc_nK n) 8) 21 16) 4) (s := qc_sT s 8) (P := fun a b c => P a b c ∧ ¬ (a = 1 ∧ b = 0 ∧ c < 8)) (by simp) (hn 26 (by decide) (by decide)) 8 0 h21 152 2146 rfl (by rw [qc_b0, qc_w0]; exact hP21) fun h22 hP22 => ?_
  refine qc_next rfl ?_
  refine qc_get (k := 1) (i := 0) (j := 3) (v := vR 5 0) hP22 rfl (fun hq => hq.2 ⟨rfl, rfl, by decide⟩) rfl ?_
  refine qc_next rfl ?_
  refine qc_call rfl (qc11 (d + 2) (by show 0 < n 5 + 1; omega) hP22) (fun o h1 c1 hG => hG.1) fun h23 c23 hG => ?_
  obtain ⟨-, rfl, hP23⟩ := hG
  exact qc_done rfl ⟨rfl, rfl, hP23⟩
