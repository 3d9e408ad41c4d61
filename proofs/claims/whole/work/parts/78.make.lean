/-! the reference's object -/
def qc_nR (n : Nat → Nat) : Nat → Nat := qp_bump (qp_bump (qp_bump (qp_bump (qp_bump (qp_bump (qp_bump (qp_bump (qp_bump (qp_bump (qp_bump (qp_bump (qp_bump (qp_bump (qp_bump (qp_bump (qp_bump (qp_bump (qp_bump (qp_bump (qp_bump (qp_bump (qp_bump (qp_bump (qp_bump (qp_bump (qp_bump (qp_bump (qp_bump (qp_bump n 31) 32) 33) 34) 35) 36) 37) 38) 39) 40) 41) 42) 43) 44) 45) 46) 47) 48) 49) 50) 51) 52) 53) 54) 55) 56) 57) 58) 59) 60
def qc_sR1 (s : qp_S) : qp_S := qp_up (qp_up (qp_up (qp_up (qp_up (qp_up (qp_up (qp_up s 31 0 0 1) 31 0 1 1) 31 0 2 1) 31 0 3 1) 31 0 4 1) 31 0 5 1) 31 0 6 1) 31 0 7 1
def qc_sR (s : qp_S) : qp_S := qc_v (qc_v (qc_v (qc_sR1 s) 34 0 48 (-1)) 45 0 8 (-1)) 47 0 8 (-1)
theorem qc_v2 (s : qp_S) (t : Nat) (v : Int32) : qp_up (qp_up (qc_v (qc_v s 45 0 t v) 47 0 t v) 45 0 t v) 47 0 t v = qc_v (qc_v s 45 0 (t + 1) v) 47 0 (t + 1) v := by
  rw [← qc_vs (qc_v s 45 0 (t + 1) v) 47 0 t v, ← qc_vs s 45 0 t v]
  congr 1
  funext a b c
  unfold qp_up qc_v
  dsimp only
  by_cases h1 : a = 45 ∧ b = 0 ∧ c = t
  · rw [if_pos h1, if_neg (by omega), if_pos h1]
  · rw [if_neg h1]
    by_cases h2 : a = 47 ∧ b = 0 ∧ c < t
    · rw [if_pos h2, if_pos h2]
    · rw [if_neg h2, if_neg h2, if_neg h1]
theorem qc113_279 {ro : Nat → Nat × (Nat → Int32)} (d : Nat) {n : Nat → Nat} {s : qp_S} {P : Nat → Nat → Nat → Prop} {F : qm_O → qm_H → qm_C → Prop} {k : qm_C} (hnP : ¬ P 30 0 4) (hi : 0 < n 34) : ∀ (r t : Nat) (h : qm_H), r + t = 48 → qc_P n (qc_v s 34 0 t (-1)) P h →
    (∀ h1, qc_P n (qc_v s 34 0 48 (-1)) P h1 → qc_W ro d 113 F (298, [some (vR 30 0), some (vI (Int32.ofNat 48))], [], h1, k)) → qc_W ro d 113 F (279, [some (vR 30 0), some (vI (Int32.ofNat t))], [], h, k) := by
  intro r
  induction r with
  | zero =>
    intro t h hrt hP kk
    obtain rfl : t = 48 := by omega
    iterate 2 refine qc_next rfl ?_
    refine qc_t (b := qm_cmp .ge (Int32.ofNat 48) (Int32.ofNat 48)) (by rw [qi_ge (by omega) (by omega)]; decide) rfl ?_
    exact kk h hP
  | succ r ih =>
    intro t h hrt hP kk
    iterate 2 refine qc_next rfl ?_
    refine qc_f (b := qm_cmp .ge (Int32.ofNat t) (Int32.ofNat 48)) (by rw [qi_ge (by omega) (by omega)]; exact decide_eq_false (by omega)) rfl ?_
    refine qc_next rfl ?_
    refine qc_get (k := 30) (i := 0) (j := 4) (v := vR 34 0) hP rfl hnP rfl ?_
    iterate 2 refine qc_next rfl ?_
    refine qc_ist (k := 33) (i := 0) (t := t) (v := -1) hP (show t < 48 by omega) hi rfl rfl rfl rfl rfl fun h1 hP1 => ?_
    iterate 2 refine qc_next rfl ?_
    have e1 : Int32.ofNat t + 1 = Int32.ofNat (t + 1) := qi_add t 1
    rw [qc_vs] at hP1
    have hJ := ih (t + 1) h1 (by omega) hP1 kk
    rw [← e1] at hJ
    exact hJ
theorem qc113_300 {ro : Nat → Nat × (Nat → Int32)} (d : Nat) {n : Nat → Nat} {s : qp_S} {P : Nat → Nat → Nat → Prop} {F : qm_O → qm_H → qm_C → Prop} {k : qm_C} (hnP : ¬ P 30 0 15) (hnP2 : ¬ P 30 0 17) (hi : 0 < n 45) (hi2 : 0 < n 47) : ∀ (r t : Nat) (h : qm_H), r + t = 8 → qc_P n (qc_v (qc_v s 45 0 t (-1)) 47 0 t (-1)) P h →
    (∀ h1, qc_P n (qc_v (qc_v s 45 0 8 (-1)) 47 0 8 (-1)) P h1 → qc_W ro d 113 F (326, [some (vR 30 0), some (vI (Int32.ofNat 8))], [], h1, k)) → qc_W ro d 113 F (300, [some (vR 30 0), some (vI (Int32.ofNat t))], [], h, k) := by
  intro r
  induction r with
  | zero =>
    intro t h hrt hP kk
    obtain rfl : t = 8 := by omega
    iterate 2 refine qc_next rfl ?_
    refine qc_t (b := qm_cmp .ge (Int32.ofNat 8) (Int32.ofNat 8)) (by rw [qi_ge (by omega) (by omega)]; decide) rfl ?_
    exact kk h hP
  | succ r ih =>
    intro t h hrt hP kk
    iterate 2 refine qc_next rfl ?_
    refine qc_f (b := qm_cmp .ge (Int32.ofNat t) (Int32.ofNat 8)) (by rw [qi_ge (by omega) (by omega)]; exact decide_eq_false (by omega)) rfl ?_
    refine qc_next rfl ?_
    refine qc_get (k := 30) (i := 0) (j := 15) (v := vR 45 0) hP rfl hnP rfl ?_
    iterate 2 refine qc_next rfl ?_
    refine qc_ist (k := 44) (i := 0) (t := t) (v := -1) hP (show t < 8 by omega) hi rfl rfl rfl rfl rfl fun h1 hP1 => ?_
    refine qc_next rfl ?_
    refine qc_get (k := 30) (i := 0) (j := 17) (v := vR 47 0) hP1 rfl hnP2 rfl ?_
    iterate 2 refine qc_next rfl ?_
    refine qc_ist (k := 46) (i := 0) (t := t) (v := -1) hP1 (show t < 8 by omega) hi2 rfl rfl rfl rfl rfl fun h2 hP2 => ?_
    iterate 2 refine qc_next rfl ?_
    have e1 : Int32.ofNat t + 1 = Int32.ofNat (t + 1) := qi_add t 1
    rw [qc_v2] at hP2
    have hJ := ih (t + 1) h2 (by omega) hP2 kk
    rw [← e1] at hJ
    exact hJ
set_option maxHeartbeats 4000000 in
theorem qc113 {ro : Nat → Nat × (Nat → Int32)} (d : Nat) {n : Nat → Nat} {s : qp_S} {P : Nat → Nat → Nat → Prop} {h : qm_H} (hP : qc_P n s P h) (hn : ∀ k, 31 ≤ k → k ≤ 60 → n k = 0) : qc_W ro (d + 1) 113 (fun o h1 c1 => o = .inl none ∧ c1 = (30, 1939) ∧ qc_P (qc_nR n) (qc_sR s) (fun a b c => P a b c ∧ ¬ (a = 30 ∧ b = 0 ∧ c < 39 ∧ qk_dt 30 c = 1)) h1) (0, qm_ent 113 [vR 30 0], [], h, (0, 0)) := by
  refine qc_next rfl ?_
  refine qc_obj rfl rfl rfl rfl (Nat.le_of_ble_eq_true rfl) ?_
  iterate 2 refine qc_next rfl ?_
  refine qc_newI hP rfl (hn 31 (by decide) (by decide)) (fun j _ => by show ¬ (0 = 1); decide) fun h1 hP1 => ?_
  iterate 3 refine qc_next rfl ?_
  refine qc_putI (k := 31) (i := 0) (j := 0) (v := 1) hP1 rfl rfl (by show 0 < n 31 + 1; omega) fun h2 hP2 => ?_
  iterate 3 refine qc_next rfl ?_
  refine qc_putI (k := 31) (i := 0) (j := 1) (v := 1) hP2 rfl rfl (by show 0 < n 31 + 1; omega) fun h3 hP3 => ?_
  iterate 3 refine qc_next rfl ?_
  refine qc_putI (k := 31) (i := 0) (j := 2) (v := 1) hP3 rfl rfl (by show 0 < n 31 + 1; omega) fun h4 hP4 => ?_
  iterate 3 refine qc_next rfl ?_
  refine qc_putI (k := 31) (i := 0) (j := 3) (v := 1) hP4 rfl rfl (by show 0 < n 31 + 1; omega) fun h5 hP5 => ?_
  iterate 3 refine qc_next rfl ?_
  refine qc_putI (k := 31) (i := 0) (j := 4) (v := 1) hP5 rfl rfl (by show 0 < n 31 + 1; omega) fun h6 hP6 => ?_
  iterate 3 refine qc_next rfl ?_
  refine qc_putI (k := 31) (i := 0) (j := 5) (v := 1) hP6 rfl rfl (by show 0 < n 31 + 1; omega) fun h7 hP7 => ?_
  iterate 3 refine qc_next rfl ?_
  refine qc_putI (k := 31) (i := 0) (j := 6) (v := 1) hP7 rfl rfl (by show 0 < n 31 + 1; omega) fun h8 hP8 => ?_
  iterate 3 refine qc_next rfl ?_
  refine qc_putI (k := 31) (i := 0) (j := 7) (v := 1) hP8 rfl rfl (by show 0 < n 31 + 1; omega) fun h9 hP9 => ?_
  refine qc_putR hP9 rfl rfl fun h10 hP10 => ?_
  iterate 2 refine qc_next rfl ?_
  refine qc_newI hP10 rfl (hn 32 (by decide) (by decide)) (fun j _ => by show ¬ (0 = 1); decide) fun h11 hP11 => ?_
  refine qc_putR hP11 rfl rfl fun h12 hP12 => ?_
  iterate 2 refine qc_next rfl ?_
  refine qc_newI hP12 rfl (hn 33 (by decide) (by decide)) (fun j _ => by show ¬ (0 = 1); decide) fun h13 hP13 => ?_
  refine qc_putR hP13 rfl rfl fun h14 hP14 => ?_
  iterate 2 refine qc_next rfl ?_
  refine qc_newI hP14 rfl (hn 34 (by decide) (by decide)) (fun j _ => by show ¬ (0 = 1); decide) fun h15 hP15 => ?_
  refine qc_putR hP15 rfl rfl fun h16 hP16 => ?_
  iterate 2 refine qc_next rfl ?_
  refine qc_newI hP16 rfl (hn 35 (by decide) (by decide)) (fun j _ => by show ¬ (0 = 1); decide) fun h17 hP17 => ?_
  refine qc_putR hP17 rfl rfl fun h18 hP18 => ?_
  iterate 2 refine qc_next rfl ?_
  refine qc_newI hP18 rfl (hn 36 (by decide) (by decide)) (fun j _ => by show ¬ (0 = 1); decide) fun h19 hP19 => ?_
  refine qc_putR hP19 rfl rfl fun h20 hP20 => ?_
  iterate 2 refine qc_next rfl ?_
  refine qc_newI hP20 rfl (hn 37 (by decide) (by decide)) (fun j _ => by show ¬ (0 = 1); decide) fun h21 hP21 => ?_
  refine qc_putR hP21 rfl rfl fun h22 hP22 => ?_
  iterate 2 refine qc_next rfl ?_
  refine qc_newI hP22 rfl (hn 38 (by decide) (by decide)) (fun j _ => by show ¬ (0 = 1); decide) fun h23 hP23 => ?_
  refine qc_putR hP23 rfl rfl fun h24 hP24 => ?_
  iterate 2 refine qc_next rfl ?_
  refine qc_newI hP24 rfl (hn 39 (by decide) (by decide)) (fun j _ => by show ¬ (0 = 1); decide) fun h25 hP25 => ?_
  refine qc_putR hP25 rfl rfl fun h26 hP26 => ?_
  iterate 2 refine qc_next rfl ?_
  refine qc_newI hP26 rfl (hn 40 (by decide) (by decide)) (fun j _ => by show ¬ (0 = 1); decide) fun h27 hP27 => ?_
  refine qc_putR hP27 rfl rfl fun h28 hP28 => ?_
  iterate 2 refine qc_next rfl ?_
  refine qc_newI hP28 rfl (hn 41 (by decide) (by decide)) (fun j _ => by show ¬ (0 = 1); decide) fun h29 hP29 => ?_
  refine qc_putR hP29 rfl rfl fun h30 hP30 => ?_
  iterate 2 refine qc_next rfl ?_
  refine qc_newI hP30 rfl (hn 42 (by decide) (by decide)) (fun j _ => by show ¬ (0 = 1); decide) fun h31 hP31 => ?_
  refine qc_putR hP31 rfl rfl fun h32 hP32 => ?_
  iterate 2 refine qc_next rfl ?_
  refine qc_newI hP32 rfl (hn 43 (by decide) (by decide)) (fun j _ => by show ¬ (0 = 1); decide) fun h33 hP33 => ?_
  refine qc_putR hP33 rfl rfl fun h34 hP34 => ?_
  iterate 2 refine qc_next rfl ?_
  refine qc_newI hP34 rfl (hn 44 (by decide) (by decide)) (fun j _ => by show ¬ (0 = 1); decide) fun h35 hP35 => ?_
  refine qc_putR hP35 rfl rfl fun h36 hP36 => ?_
  iterate 2 refine qc_next rfl ?_
  refine qc_newI hP36 rfl (hn 45 (by decide) (by decide)) (fun j _ => by show ¬ (0 = 1); decide) fun h37 hP37 => ?_
  refine qc_putR hP37 rfl rfl fun h38 hP38 => ?_
  iterate 2 refine qc_next rfl ?_
  refine qc_newI hP38 rfl (hn 46 (by decide) (by decide)) (fun j _ => by show ¬ (0 = 1); decide) fun h39 hP39 => ?_
  refine qc_putR hP39 rfl rfl fun h40 hP40 => ?_
  iterate 2 refine qc_next rfl ?_
  refine qc_newI hP40 rfl (hn 47 (by decide) (by decide)) (fun j _ => by show ¬ (0 = 1); decide) fun h41 hP41 => ?_
  refine qc_putR hP41 rfl rfl fun h42 hP42 => ?_
  iterate 2 refine qc_next rfl ?_
  refine qc_newI hP42 rfl (hn 48 (by decide) (by decide)) (fun j _ => by show ¬ (0 = 1); decide) fun h43 hP43 => ?_
  refine qc_putR hP43 rfl rfl fun h44 hP44 => ?_
  iterate 2 refine qc_next rfl ?_
  refine qc_newI hP44 rfl (hn 49 (by decide) (by decide)) (fun j _ => by show ¬ (0 = 1); decide) fun h45 hP45 => ?_
  refine qc_putR hP45 rfl rfl fun h46 hP46 => ?_
  iterate 2 refine qc_next rfl ?_
  refine qc_newI hP46 rfl (hn 50 (by decide) (by decide)) (fun j _ => by show ¬ (0 = 1); decide) fun h47 hP47 => ?_
  refine qc_putR hP47 rfl rfl fun h48 hP48 => ?_
  iterate 2 refine qc_next rfl ?_
  refine qc_newI hP48 rfl (hn 51 (by decide) (by decide)) (fun j _ => by show ¬ (0 = 1); decide) fun h49 hP49 => ?_
  refine qc_putR hP49 rfl rfl fun h50 hP50 => ?_
  iterate 2 refine qc_next rfl ?_
  refine qc_newI hP50 rfl (hn 52 (by decide) (by decide)) (fun j _ => by show ¬ (0 = 1); decide) fun h51 hP51 => ?_
  refine qc_putR hP51 rfl rfl fun h52 hP52 => ?_
  iterate 2 refine qc_next rfl ?_
  refine qc_newI hP52 rfl (hn 53 (by decide) (by decide)) (fun j _ => by show ¬ (0 = 1); decide) fun h53 hP53 => ?_
  refine qc_putR hP53 rfl rfl fun h54 hP54 => ?_
  iterate 2 refine qc_next rfl ?_
  refine qc_newI hP54 rfl (hn 54 (by decide) (by decide)) (fun j _ => by show ¬ (0 = 1); decide) fun h55 hP55 => ?_
  refine qc_putR hP55 rfl rfl fun h56 hP56 => ?_
  iterate 2 refine qc_next rfl ?_
  refine qc_newI hP56 rfl (hn 55 (by decide) (by decide)) (fun j _ => by show ¬ (0 = 1); decide) fun h57 hP57 => ?_
  refine qc_putR hP57 rfl rfl fun h58 hP58 => ?_
  iterate 2 refine qc_next rfl ?_
  refine qc_newI hP58 rfl (hn 56 (by decide) (by decide)) (fun j _ => by show ¬ (0 = 1); decide) fun h59 hP59 => ?_
  refine qc_putR hP59 rfl rfl fun h60 hP60 => ?_
  iterate 2 refine qc_next rfl ?_
  refine qc_newI hP60 rfl (hn 57 (by decide) (by decide)) (fun j _ => by show ¬ (0 = 1); decide) fun h61 hP61 => ?_
  refine qc_putR hP61 rfl rfl fun h62 hP62 => ?_
  iterate 2 refine qc_next rfl ?_
  refine qc_newI hP62 rfl (hn 58 (by decide) (by decide)) (fun j _ => by show ¬ (0 = 1); decide) fun h63 hP63 => ?_
  refine qc_putR hP63 rfl rfl fun h64 hP64 => ?_
  iterate 2 refine qc_next rfl ?_
  refine qc_newI hP64 rfl (hn 59 (by decide) (by decide)) (fun j _ => by show ¬ (0 = 1); decide) fun h65 hP65 => ?_
  refine qc_putR hP65 rfl rfl fun h66 hP66 => ?_
  iterate 2 refine qc_next rfl ?_
  refine qc_newI hP66 rfl (hn 60 (by decide) (by decide)) (fun j _ => by show ¬ (0 = 1); decide) fun h67 hP67 => ?_
  refine qc_putR hP67 rfl rfl fun h68 hP68 => ?_
  have hQ : qc_P (qc_nR n) (qc_sR1 s) (fun a b c => P a b c ∧ ¬ (a = 30 ∧ b = 0 ∧ c < 39 ∧ qk_dt 30 c = 1)) h68 := hP68.weak fun a b c hq => by
    obtain ⟨⟨⟨⟨⟨⟨⟨⟨⟨⟨⟨⟨⟨⟨⟨⟨⟨⟨⟨⟨⟨⟨⟨⟨⟨⟨⟨⟨⟨⟨q0, p1⟩, p2⟩, p3⟩, p4⟩, p5⟩, p6⟩, p7⟩, p8⟩, p9⟩, p10⟩, p11⟩, p12⟩, p13⟩, p14⟩, p15⟩, p16⟩, p17⟩, p18⟩, p19⟩, p24⟩, p25⟩, p26⟩, p27⟩, p28⟩, p29⟩, p31⟩, p32⟩, p36⟩, p37⟩, p38⟩ := hq
    refine ⟨q0, fun hz => ?_⟩
    obtain ⟨z1, z2, z3, z4⟩ := hz
    have hc : c = 0 ∨ c = 1 ∨ c = 2 ∨ c = 3 ∨ c = 4 ∨ c = 5 ∨ c = 6 ∨ c = 7 ∨ c = 8 ∨ c = 9 ∨ c = 10 ∨ c = 11 ∨ c = 12 ∨ c = 13 ∨ c = 14 ∨ c = 15 ∨ c = 16 ∨ c = 17 ∨ c = 18 ∨ c = 19 ∨ c = 20 ∨ c = 21 ∨ c = 22 ∨ c = 23 ∨ c = 24 ∨ c = 25 ∨ c = 26 ∨ c = 27 ∨ c = 28 ∨ c = 29 ∨ c = 30 ∨ c = 31 ∨ c = 32 ∨ c = 33 ∨ c = 34 ∨ c = 35 ∨ c = 36 ∨ c = 37 ∨ c = 38 := by omega
    rcases hc with e | e | e | e | e | e | e | e | e | e | e | e | e | e | e | e | e | e | e | e | e | e | e | e | e | e | e | e | e | e | e | e | e | e | e | e | e | e | e
    · rw [e] at z4; exact absurd z4 (by decide)
    · exact p1 ⟨z1, z2, e⟩
    · exact p2 ⟨z1, z2, e⟩
    · exact p3 ⟨z1, z2, e⟩
    · exact p4 ⟨z1, z2, e⟩
    · exact p5 ⟨z1, z2, e⟩
    · exact p6 ⟨z1, z2, e⟩
    · exact p7 ⟨z1, z2, e⟩
    · exact p8 ⟨z1, z2, e⟩
    · exact p9 ⟨z1, z2, e⟩
    · exact p10 ⟨z1, z2, e⟩
    · exact p11 ⟨z1, z2, e⟩
    · exact p12 ⟨z1, z2, e⟩
    · exact p13 ⟨z1, z2, e⟩
    · exact p14 ⟨z1, z2, e⟩
    · exact p15 ⟨z1, z2, e⟩
    · exact p16 ⟨z1, z2, e⟩
    · exact p17 ⟨z1, z2, e⟩
    · exact p18 ⟨z1, z2, e⟩
    · exact p19 ⟨z1, z2, e⟩
    · rw [e] at z4; exact absurd z4 (by decide)
    · rw [e] at z4; exact absurd z4 (by decide)
    · rw [e] at z4; exact absurd z4 (by decide)
    · rw [e] at z4; exact absurd z4 (by decide)
    · exact p24 ⟨z1, z2, e⟩
    · exact p25 ⟨z1, z2, e⟩
    · exact p26 ⟨z1, z2, e⟩
    · exact p27 ⟨z1, z2, e⟩
    · exact p28 ⟨z1, z2, e⟩
    · exact p29 ⟨z1, z2, e⟩
    · rw [e] at z4; exact absurd z4 (by decide)
    · exact p31 ⟨z1, z2, e⟩
    · exact p32 ⟨z1, z2, e⟩
    · rw [e] at z4; exact absurd z4 (by decide)
    · rw [e] at z4; exact absurd z4 (by decide)
    · rw [e] at z4; exact absurd z4 (by decide)
    · exact p36 ⟨z1, z2, e⟩
    · exact p37 ⟨z1, z2, e⟩
    · exact p38 ⟨z1, z2, e⟩
  iterate 2 refine qc_next rfl ?_
  refine qc113_279 (d + 1) (n := qc_nR n) (s := qc_sR1 s) (P := fun a b c => P a b c ∧ ¬ (a = 30 ∧ b = 0 ∧ c < 39 ∧ qk_dt 30 c = 1)) (k := (30, 1939)) (fun hq => hq.2 ⟨rfl, rfl, by decide, rfl⟩) (by show 0 < n 34 + 1; omega) 48 0 h68 rfl (by rw [qc_v0]; exact hQ) fun ha hPa => ?_
  iterate 2 refine qc_next rfl ?_
  refine qc113_300 (d + 1) (n := qc_nR n) (s := qc_v (qc_sR1 s) 34 0 48 (-1)) (P := fun a b c => P a b c ∧ ¬ (a = 30 ∧ b = 0 ∧ c < 39 ∧ qk_dt 30 c = 1)) (k := (30, 1939)) (fun hq => hq.2 ⟨rfl, rfl, by decide, rfl⟩) (fun hq => hq.2 ⟨rfl, rfl, by decide, rfl⟩) (by show 0 < n 45 + 1; omega) (by show 0 < n 47 + 1; omega) 8 0 ha rfl (by rw [qc_v0, qc_v0]; exact hPa) fun hb hPb => ?_
  exact qc_done rfl ⟨rfl, rfl, hPb⟩
