/-- a task -/
def qc_s4 (s : qp_S) (i : Nat) : qp_S := qc_w (qp_up (qp_up (qp_up s 14 i 0 1) 14 i 3 (-1)) 14 i 8 (-1)) 16 (6 * i) 6 0 (-1)
def qc_n4 (n : Nat → Nat) : Nat → Nat := qc_b (qp_bump (qp_bump (qp_bump (qp_bump (qp_bump n 15) 17) 18) 19) 20) 16 6
theorem qc4 {ro : Nat → Nat × (Nat → Int32)} (d i : Nat) {n : Nat → Nat} {s : qp_S} {P : Nat → Nat → Nat → Prop} {h : qm_H} (hP : qc_P n s P h) (h14 : i < n 14) (h15 : n 15 = i) (h16 : n 16 = 6 * i) (h17 : n 17 = i) (h18 : n 18 = i) (h19 : n 19 = i) (h20 : n 20 = i) :
    qc_W ro (d + 2) 4 (fun o h1 c1 => o = .inl none ∧ c1 = (11, 70) ∧ qc_P (qc_n4 n) (qc_s4 s i) (fun a b c => P a b c ∧ ¬ (a = 14 ∧ b = i ∧ (c = 2 ∨ c = 5 ∨ c = 6 ∨ c = 7))) h1) (0, qm_ent 4 [vR 14 i], [], h, (0, 0)) := by
  refine qc_next rfl ?_
  refine qc_obj rfl rfl rfl rfl (Nat.le_of_ble_eq_true rfl) ?_
  iterate 2 refine qc_next rfl ?_
  refine qc_putI hP rfl rfl h14 fun h1 hP1 => ?_
  iterate 2 refine qc_next rfl ?_
  refine qc_new hP1 rfl h15 fun h2 hP2 => ?_
  refine qc_putR hP2 rfl rfl fun h3 hP3 => ?_
  iterate 2 refine qc_next rfl ?_
  refine qc_putI hP3 rfl rfl h14 fun h4 hP4 => ?_
  iterate 2 refine qc_next rfl ?_
  refine qc_newI hP4 rfl h17 (fun j _ => by show ¬ (0 = 1); decide) fun h5 hP5 => ?_
  refine qc_putR hP5 rfl rfl fun h6 hP6 => ?_
  iterate 2 refine qc_next rfl ?_
  refine qc_newI hP6 rfl h18 (fun j _ => by show ¬ (0 = 1); decide) fun h7 hP7 => ?_
  refine qc_putR hP7 rfl rfl fun h8 hP8 => ?_
  refine qc_next rfl ?_
  refine qc_new hP8 rfl h19 fun h9 hP9 => ?_
  refine qc_next rfl ?_
  refine qc_call rfl (qc5 (d + 0) i hP9 h20) (fun o h1 c1 hG => hG.1) fun h10 c10 hG => ?_
  obtain ⟨-, rfl, hP10⟩ := hG
  refine qc_putR hP10 rfl rfl fun h11 hP11 => ?_
  iterate 2 refine qc_next rfl ?_
  refine qc_putI hP11 rfl rfl h14 fun h12 hP12 => ?_
  iterate 2 refine qc_next rfl ?_
  have hJ := qc4_56 (ro := ro) d i (n := qp_bump (qp_bump (qp_bump (qp_bump (qp_bump n 15) 17) 18) 19) 20) (s := qp_up (qp_up (qp_up s 14 i 0 1) 14 i 3 (-1)) 14 i 8 (-1)) (P := fun a b c => P a b c ∧ ¬ (a = 14 ∧ b = i ∧ (c = 2 ∨ c = 5 ∨ c = 6 ∨ c = 7))) (fun hq => hq.2 ⟨rfl, rfl, Or.inl rfl⟩) h16 6 0 h12 5 52 rfl (by
    rw [qc_b0, qc_w0]
    refine hP12.weak fun a b c hq => ?_
    obtain ⟨⟨⟨⟨⟨q0 | ⟨q1, q2, q3, -⟩, q4⟩, q5⟩, q6⟩ | ⟨r1, r2, r3, r4⟩, q7⟩, q8⟩ := hq
    · refine Or.inl ⟨q0, fun hz => ?_⟩
      obtain ⟨z1, z2, z3⟩ := hz
      rcases z3 with z3 | z3 | z3 | z3
      · exact q4 ⟨z1, z2, z3⟩
      · exact q5 ⟨z1, z2, z3⟩
      · exact q6 ⟨z1, z2, z3⟩
      · exact q8 ⟨z1, z2, z3⟩
    · exact Or.inr ⟨q1, q2, Nat.zero_le _, q3⟩
    · exfalso
      have r3 : c < 2 := r3
      have : c = 0 ∨ c = 1 := by omega
      rcases this with rfl | rfl
      · exact q7 ⟨r1, r2, rfl⟩
      · exact absurd r4 (by decide))
  exact hJ
