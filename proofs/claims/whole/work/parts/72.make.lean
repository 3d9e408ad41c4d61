/-- a mode -/
theorem qc8 {ro : Nat → Nat × (Nat → Int32)} (d i : Nat) {n : Nat → Nat} {s : qp_S} {P : Nat → Nat → Nat → Prop} {h : qm_H} (hP : qc_P n s P h) (h23 : n 23 = i) (h24 : n 24 = i) (h25 : n 25 = 4 * i) :
    qc_W ro (d + 2) 8 (fun o h1 c1 => o = .inl none ∧ c1 = (6, 28) ∧ qc_P (qc_b (qp_bump (qp_bump n 23) 24) 25 4) s (fun a b c => P a b c ∧ ¬ (a = 22 ∧ b = i ∧ (c = 2 ∨ c = 3))) h1) (0, qm_ent 8 [vR 22 i], [], h, (0, 0)) := by
  refine qc_next rfl ?_
  refine qc_obj rfl rfl rfl rfl (Nat.le_of_ble_eq_true rfl) ?_
  iterate 2 refine qc_next rfl ?_
  refine qc_newI hP rfl h23 (fun j _ => by show ¬ (0 = 1); decide) fun h1 hP1 => ?_
  refine qc_putR hP1 rfl rfl fun h2 hP2 => ?_
  iterate 2 refine qc_next rfl ?_
  refine qc_new hP2 rfl h24 fun h3 hP3 => ?_
  refine qc_putR hP3 rfl rfl fun h4 hP4 => ?_
  iterate 2 refine qc_next rfl ?_
  have hJ := qc8_22 (ro := ro) d i (n := qp_bump (qp_bump n 23) 24) (s := s) (P := fun a b c => P a b c ∧ ¬ (a = 22 ∧ b = i ∧ (c = 2 ∨ c = 3))) (fun hq => hq.2 ⟨rfl, rfl, Or.inr rfl⟩) h25 4 0 h4 2 12 rfl (by
    rw [qc_b0]
    refine hP4.weak fun a b c hq => ?_
    obtain ⟨⟨q1, q2⟩ | ⟨q1, q2, q3, -⟩, q4⟩ := hq
    · exact Or.inl ⟨q1, fun hz => hz.2.2.elim (fun e => q2 ⟨hz.1, hz.2.1, e⟩) (fun e => q4 ⟨hz.1, hz.2.1, e⟩)⟩
    · exact Or.inr ⟨q1, q2, Nat.zero_le _, q3⟩)
  exact hJ
/-- the slots of a task: all of no way -/
def qc_w (s : qp_S) (k lo m j : Nat) (v : Int32) : qp_S := fun a b c => if a = k ∧ lo ≤ b ∧ b < lo + m ∧ c = j then v else s a b c
theorem qc_w0 (s : qp_S) (k lo j : Nat) (v : Int32) : qc_w s k lo 0 j v = s := by
  funext a b c
  unfold qc_w
  rw [if_neg]
  omega
theorem qc_ws (s : qp_S) (k lo t j : Nat) (v : Int32) : qp_up (qc_w s k lo t j v) k (lo + t) j v = qc_w s k lo (t + 1) j v := by
  funext a b c
  unfold qp_up qc_w
  by_cases h1 : a = k ∧ b = lo + t ∧ c = j
  · rw [if_pos h1, if_pos (by omega)]
  · rw [if_neg h1]
    by_cases h2 : a = k ∧ lo ≤ b ∧ b < lo + t ∧ c = j
    · rw [if_pos h2, if_pos (by omega)]
    · rw [if_neg h2, if_neg]
      intro h3
      exact h1 (by omega)
theorem qc4_56 {ro : Nat → Nat × (Nat → Int32)} (d i : Nat) {n : Nat → Nat} {s : qp_S} {P : Nat → Nat → Nat → Prop} (hnP : ¬ P 14 i 2) (hn : n 16 = 6 * i) : ∀ (r t : Nat) (h : qm_H) (k1 k2 : Nat), r + t = 6 → qc_P (qc_b n 16 t) (qc_w s 16 (6 * i) t 0 (-1)) (fun a b c => P a b c ∨ (a = 15 ∧ b = i ∧ t ≤ c ∧ c < 6)) h →
    qc_W ro (d + 2) 4 (fun o h1 c1 => o = .inl none ∧ c1 = (k1 + r, k2 + 3 * r) ∧ qc_P (qc_b n 16 6) (qc_w s 16 (6 * i) 6 0 (-1)) P h1) (56, [some (vR 14 i), some (vI (Int32.ofNat t))], [], h, (k1, k2)) := by
  intro r
  induction r with
  | zero =>
    intro t h k1 k2 hrt hP
    obtain rfl : t = 6 := by omega
    iterate 2 refine qc_next rfl ?_
    refine qc_t (b := qm_cmp .ge (Int32.ofNat 6) (Int32.ofNat 6)) (by rw [qi_ge (by omega) (by omega)]; decide) rfl ?_
    exact qc_done rfl ⟨rfl, rfl, hP.weak fun a b c hq => hq.elim id fun hz => absurd hz.2.2 (by omega)⟩
  | succ r ih =>
    intro t h k1 k2 hrt hP
    iterate 2 refine qc_next rfl ?_
    refine qc_f (b := qm_cmp .ge (Int32.ofNat t) (Int32.ofNat 6)) (by rw [qi_ge (by omega) (by omega)]; exact decide_eq_false (by omega)) rfl ?_
    refine qc_next rfl ?_
    refine qc_get (k := 14) (i := i) (j := 2) (v := vR 15 i) hP rfl (fun hq => hq.elim hnP (fun hz => absurd hz.1 (by decide))) rfl ?_
    refine qc_next rfl ?_
    refine qc_newI (k := 16) (i := 6 * i + t) hP rfl (by unfold qc_b; rw [if_pos rfl, hn]) (by decide) fun h1 hP1 => ?_
    refine qc_next rfl ?_
    rw [qc_bs] at hP1
    refine qc_call rfl (qc6 (d + 0) (6 * i + t) hP1 (by unfold qc_b; rw [if_pos rfl, hn]; omega)) (fun o h1 c1 hG => hG.1) fun h2 c2 hG => ?_
    obtain ⟨-, rfl, hP2⟩ := hG
    rw [qc_ws] at hP2
    refine qc_aast (k := 14) (i := i) (t := t) hP2 (show t < 6 by omega) rfl rfl rfl rfl rfl rfl rfl fun h3 hP3 => ?_
    iterate 2 refine qc_next rfl ?_
    have e1 : Int32.ofNat t + 1 = Int32.ofNat (t + 1) := qi_add t 1
    have hJ := ih (t + 1) h3 (k1 + 1) (k2 + 3) (by omega) (hP3.weak fun a b c hq => by
      rcases hq with ⟨q1 | q1, q2⟩
      · exact Or.inl q1
      · refine Or.inr ⟨q1.1, q1.2.1, ?_, q1.2.2.2⟩
        rcases Nat.eq_or_lt_of_le q1.2.2.1 with e | e
        · exact absurd ⟨q1.1, q1.2.1, e.symm⟩ q2
        · exact e)
    rw [← e1] at hJ
    obtain ⟨o, h4, c4, g1, g2, g3, g4⟩ := hJ
    exact ⟨o, h4, c4, g1, g2, by rw [g3, Nat.add_assoc, Nat.add_comm 1 r]; congr 1; omega, g4⟩
