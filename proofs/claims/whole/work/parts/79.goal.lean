/-! the law's beginning, and what is left -/
def qz_s0 : qp_S := qc_sR (qc_s0 (fun _ _ _ => 0))
def qz_n1 : Nat → Nat := qp_bump qz_h0.1 1
def qz_n2 : Nat → Nat := qp_bump (qc_n0 qz_n1) 30
def qz_n3 : Nat → Nat := qp_bump (qc_nR qz_n2) 61
set_option maxRecDepth 100000 in
theorem qz_nA : ∀ k, k < 27 → 2 ≤ k → qz_n1 k = 0 := by decide +kernel
set_option maxRecDepth 100000 in
theorem qz_nB : ∀ k, k < 61 → 31 ≤ k → qz_n2 k = 0 := by decide +kernel
set_option maxRecDepth 100000 in
theorem qz_nC : ∀ k, k < 70 → qz_n3 k = qp_n k := by decide +kernel
theorem qz_nD {k : Nat} (h : 70 ≤ k) : qz_n3 k = 0 := by
  have e1 : qz_h0.1 k = 0 := by
    unfold qz_h0
    dsimp only
    cases hb : (Nat.ble 62 k && Nat.ble k 66) with
    | false => rfl
    | true =>
      rw [Bool.and_eq_true] at hb
      have := Nat.le_of_ble_eq_true hb.2
      omega
  have hb : ∀ {n : Nat → Nat} {j : Nat}, j < 70 → qp_bump n j k = n k := fun hj => if_neg (by omega)
  have hc : ∀ {n : Nat → Nat} {j m : Nat}, j < 70 → qc_b n j m k = n k := fun hj => if_neg (by omega)
  have hT : ∀ (n : Nat → Nat) (t : Nat), qc_nT n t k = n k := by
    intro n t
    induction t with
    | zero => rfl
    | succ t ih =>
      show qc_n4 (qp_bump (qc_nT n t) 14) k = _
      unfold qc_n4
      rw [hc (by omega), hb (by omega), hb (by omega), hb (by omega), hb (by omega), hb (by omega), hb (by omega), ih]
  have hM : ∀ (n : Nat → Nat) (t : Nat), qc_nM n t k = n k := by
    intro n t
    induction t with
    | zero => rfl
    | succ t ih =>
      show qc_b (qp_bump (qp_bump (qp_bump (qc_nM n t) 22) 23) 24) 25 4 k = _
      rw [hc (by omega), hb (by omega), hb (by omega), hb (by omega), ih]
  unfold qz_n3 qc_nR qz_n2 qc_n0 qc_nK qz_n1
  rw [hb (by omega)]
  iterate 30 rw [hb (by omega)]
  rw [hb (by omega), hc (by omega), hM, hc (by omega), hT]
  iterate 12 rw [hb (by omega)]
  rw [hb (by omega), e1]
theorem qz_begun {L : Nat} {xs : Nat → Int32} {F : qm_O → qm_H → qm_C → Prop} (kk : qc_W (qz_ro L xs) 12 169 F (23, ql_L (Int32.ofNat 0) none none, [], qp_H qz_s0 0 (fun _ => 0), (193, 4161))) : qc_W (qz_ro L xs) 12 169 F (0, qm_ent 169 [vR 62 0], [], qz_h0, (0, 0)) := by
  have hP : qc_P qz_h0.1 (fun _ _ _ => 0) (fun _ _ _ => False) qz_h0 := ⟨rfl, fun a b c => Or.inl rfl, fun a b c _ => rfl⟩
  refine qc_new (k := 1) (i := 0) hP rfl rfl fun h1 hP1 => ?_
  refine qc_next rfl ?_
  refine qc_call rfl (qc0 8 hP1 (fun k h2 h3 => qz_nA k (by omega) h2)) (fun o h1 c1 hG => hG.1) fun h2 c2 hG => ?_
  obtain ⟨-, rfl, hP2⟩ := hG
  refine qc_next rfl ?_
  refine qc_new (k := 30) (i := 0) hP2 rfl rfl fun h3 hP3 => ?_
  refine qc_next rfl ?_
  refine qc_call rfl (qc113 10 hP3 (fun k h2 h3 => qz_nB k (by omega) h2)) (fun o h1 c1 hG => hG.1) fun h4 c4 hG => ?_
  obtain ⟨-, rfl, hP4⟩ := hG
  iterate 2 refine qc_next rfl ?_
  refine qc_newI (k := 61) (i := 0) hP4 rfl rfl (fun j _ => by show ¬ (2 = 1); decide) fun h5 hP5 => ?_
  iterate 3 refine qc_next rfl ?_
  have hn : ∀ k, qz_n3 k = (bif Nat.ble 70 k then (fun _ : Nat => 0) k else qp_n k) := by
    intro k
    cases hb : Nat.ble 70 k with
    | true => exact qz_nD (Nat.le_of_ble_eq_true hb)
    | false => exact qz_nC k (by
        rcases Nat.lt_or_ge k 70 with q | q
        · exact q
        · rw [Nat.ble_eq_true_of_le q] at hb; cases hb)
  have hH : h5 = qp_H qz_s0 0 (fun _ => 0) := hP5.done hn (by
    intro a b c hq
    obtain ⟨⟨hf | ⟨q1, q2, q3, q4⟩, q5⟩ | ⟨r1, r2, r3, r4⟩, q6⟩ := hq
    · exact hf
    · have q3 : c < 12 := q3
      have hc : c < 8 ∨ c = 8 ∨ c = 9 ∨ c = 10 ∨ c = 11 := by omega
      rcases hc with e | rfl | rfl | rfl | rfl
      · exact q5 ⟨q1, q2, e⟩
      · exact absurd q4 (by decide)
      · exact absurd q4 (by decide)
      · exact absurd q4 (by decide)
      · exact absurd q4 (by decide)
    · exact q6 ⟨r1, r2, r3, r4⟩)
  rw [hH]
  exact kk
/-- WHAT IS LEFT: a relation that holds at the beginning and that every call keeps -/
theorem qz_goal_of {R : qp_S → Prop} (h0 : R qz_s0) (H : qo_all R) : qz_goal := by
  intro L xs hL
  have hw : qc_W (qz_ro L xs) 12 169 (fun o h' c' => o = .inl (some (vI 1)) ∧ c'.1 ≤ 601024 ∧ c'.2 ≤ 7293034) (0, qm_ent 169 [vR 62 0], [], qz_h0, (0, 0)) := by
    refine qz_begun ?_
    obtain ⟨h', c', hq, hc1, hc2⟩ := qz_loop (xs := xs) H hL 513 0 (by omega) (by omega) qz_s0 0 (fun _ => 0) 193 4161 h0
    exact ⟨_, h', c', hq none none, rfl, by omega, by omega⟩
  obtain ⟨o, h', c', h1, rfl, h2, h3⟩ := hw
  exact ⟨h', c', h1, h2, h3⟩
theorem qz_claim {R : qp_S → Prop} (h0 : R qz_s0) (H : qo_all R) : Claimed_1_1 ∧ Claimed_1_2 := i_vc_of (qz_goal_of h0 H)
