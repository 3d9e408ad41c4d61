/-! one word of a job, in the reference -/
theorem qx_push {y : qp_S} {h : Nat} {a : Int32} (e : y 30 0 33 = Int32.ofNat h) (hh : h < 9) : qf150 a y = some (0, qp_up (qp_up y 57 0 h a) 30 0 33 (Int32.ofNat (h + 1))) := by
  have l0 : (0:Int32).toInt = 0 := rfl; have l1 : (1:Int32).toInt = 1 := rfl; have lm : (-1:Int32).toInt = -1 := rfl; have l3 : (3:Int32).toInt = 3 := rfl; have l4 : (4:Int32).toInt = 4 := rfl; have l5 : (5:Int32).toInt = 5 := rfl; have l6 : (6:Int32).toInt = 6 := rfl; have l7 : (7:Int32).toInt = 7 := rfl; have l8 : (8:Int32).toInt = 8 := rfl; have l15 : (15:Int32).toInt = 15 := rfl; have l16 : (16:Int32).toInt = 16 := rfl; have l32 : (32:Int32).toInt = 32 := rfl
  have th := qv_tI h (by omega)
  have e2 : (qp_up y 57 0 h a) 30 0 33 = Int32.ofNat h := e
  simp (disch := first | omega | assumption | decide) only [qf150, e, e2, qu_ltT, qu_ltF, qu_gtT, qu_gtF, qu_geT, qu_geF, qu_leT, qu_leF, qu_eqT, qu_eqF, qu_neT, qu_neF, qu_inT, qu_24T, qu_24F, qu_116T, qu_116F, qu_13T, qu_13F, qu_25T, qu_25F, qu_26T, qu_26F, qu_117a, qu_117b, qu_117c, qu_117d, qu_10F, qu_00T, qu_n10, qu_n00, Option.bind_some, cond_true, cond_false, if_true, qv_tN, qv_c6, qv_c4, qv_c8, qv_c32, qv_d4, qv_d16, qv_f4, qv_a1, qv_a2, qv_a3, qv_add, qv_inT]
theorem qx_m1 (h : Nat) : Int32.ofNat (h + 1) - 1 = Int32.ofNat h := by
  rw [Int32.ofNat_add]; exact Int32.add_sub_cancel _ _
theorem qx_pop {y : qp_S} {h : Nat} (e : y 30 0 33 = Int32.ofNat (h + 1)) (hh : h < 9) : qf151 y = some (y 57 0 h, qp_up y 30 0 33 (Int32.ofNat h)) := by
  have l0 : (0:Int32).toInt = 0 := rfl; have l1 : (1:Int32).toInt = 1 := rfl; have lm : (-1:Int32).toInt = -1 := rfl; have l3 : (3:Int32).toInt = 3 := rfl; have l4 : (4:Int32).toInt = 4 := rfl; have l5 : (5:Int32).toInt = 5 := rfl; have l6 : (6:Int32).toInt = 6 := rfl; have l7 : (7:Int32).toInt = 7 := rfl; have l8 : (8:Int32).toInt = 8 := rfl; have l15 : (15:Int32).toInt = 15 := rfl; have l16 : (16:Int32).toInt = 16 := rfl; have l32 : (32:Int32).toInt = 32 := rfl
  have th := qv_tI (h + 1) (by omega)
  simp (disch := first | omega | assumption | decide) only [qf151, e, qx_m1, qu_ps, qu_pk, qu_ltT, qu_ltF, qu_gtT, qu_gtF, qu_geT, qu_geF, qu_leT, qu_leF, qu_eqT, qu_eqF, qu_neT, qu_neF, qu_inT, qu_24T, qu_24F, qu_116T, qu_116F, qu_13T, qu_13F, qu_25T, qu_25F, qu_26T, qu_26F, qu_117a, qu_117b, qu_117c, qu_117d, qu_10F, qu_00T, qu_n10, qu_n00, Option.bind_some, cond_true, cond_false, if_true, qv_tN, qv_c6, qv_c4, qv_c8, qv_c32, qv_d4, qv_d16, qv_f4, qv_a1, qv_a2, qv_a3, qv_add, qv_inT]
theorem qx_rk {w : Nat} (hw : 4 ≤ w ∧ w ≤ 9) (a b : Int32) (s : qp_S) : qf152 (Int32.ofNat w) a b s = some (qj_rk w a b) := by
  have : w = 4 ∨ w = 5 ∨ w = 6 ∨ w = 7 ∨ w = 8 ∨ w = 9 := by omega
  rcases this with e | e | e | e | e | e <;> subst e
  · rfl
  · rfl
  · rfl
  · show (bif qm_cmp .ne b 0 then (if b = 0 then none else some (a / b)) else some 0) = some (if b = 0 then 0 else a / b)
    by_cases hb : b = 0
    · subst hb; rfl
    · rw [qv_ne, decide_eq_true hb, if_neg hb, if_neg hb]; rfl
  · show (bif qm_cmp .ge a b then some 0 else some 1) = some (qv_b (decide (a.toInt < b.toInt)))
    by_cases hb : a.toInt < b.toInt
    · rw [qu_geF hb, decide_eq_true hb]; rfl
    · rw [qu_geT (by omega), decide_eq_false hb]; rfl
  · show (bif qm_cmp .ne a b then some 0 else some 1) = some (qv_b (decide (a = b)))
    rw [qv_ne]
    by_cases hb : a = b
    · rw [decide_eq_true hb, decide_eq_false (by simp [hb])]; rfl
    · rw [decide_eq_false hb, decide_eq_true hb]; rfl
/-- what a word leaves as it was -/
def qx_F (y y' : qp_S) : Prop := ∀ k a c, ¬ (k = 30 ∧ (c = 33 ∨ c = 34 ∨ c = 35)) → k ≠ 57 → k ≠ 58 → k ≠ 59 → y' k a c = y k a c
theorem qx_Fr {y : qp_S} : qx_F y y := fun _ _ _ _ _ _ _ => rfl
theorem qx_Ft {y y' y'' : qp_S} (h : qx_F y y') (h' : qx_F y' y'') : qx_F y y'' := fun k a c n1 n2 n3 n4 => (h' k a c n1 n2 n3 n4).trans (h k a c n1 n2 n3 n4)
theorem qx_Fu {a : Int32} {i k c : Nat} {y y' : qp_S} (hk : k = 57 ∨ k = 58 ∨ k = 59) (h : qx_F y y') : qx_F y (qp_up y' k i c a) := by
  intro k' a' c' n1 n2 n3 n4
  rw [← h k' a' c' n1 n2 n3 n4]
  exact qu_pk (by omega)
theorem qx_Fn {a : Int32} {i c : Nat} {y y' : qp_S} (hk : c = 33 ∨ c = 34 ∨ c = 35) (h : qx_F y y') : qx_F y (qp_up y' 30 i c a) := by
  intro k' a' c' n1 n2 n3 n4
  rw [← h k' a' c' n1 n2 n3 n4]
  refine if_neg (fun e => n1 ⟨e.1, ?_⟩)
  rw [e.2.2]; exact hk
theorem qx_Cpush {y : qp_S} {h p : Nat} {d : Bool} {st ow sl : Nat → Int32} {a : Int32} (hC : qj_R y (h, p, d, st, ow, sl)) : qj_R (qp_up (qp_up y 57 0 h a) 30 0 33 (Int32.ofNat (h + 1))) (h + 1, p, d, qj_up st h a, ow, sl) := by
  obtain ⟨e1, e2, e2', e3, e4, e5⟩ := hC
  refine ⟨qu_ps, e2, e2', fun j hj => ?_, e4, e5⟩
  show (qp_up y 57 0 h a) 57 0 j = if j = h then a else st j
  by_cases e : j = h
  · subst e; rw [if_pos rfl]; exact qu_ps
  · rw [if_neg e, qu_pj e]; exact e3 j (by have : j < h + 1 := hj; omega)
theorem qx_Cpop {y : qp_S} {h p : Nat} {d : Bool} {st ow sl : Nat → Int32} (hC : qj_R y (h + 1, p, d, st, ow, sl)) : qj_R (qp_up y 30 0 33 (Int32.ofNat h)) (h, p, d, st, ow, sl) := by
  obtain ⟨e1, e2, e2', e3, e4, e5⟩ := hC
  exact ⟨qu_ps, e2, e2', fun j hj => e3 j (Nat.lt_succ_of_lt hj), e4, e5⟩
theorem qx_Cp {y : qp_S} {h p q : Nat} {d : Bool} {st ow sl : Nat → Int32} (hC : qj_R y (h, p, d, st, ow, sl)) : qj_R (qp_up y 30 0 34 (Int32.ofNat q)) (h, q, d, st, ow, sl) := by
  obtain ⟨e1, e2, e2', e3, e4, e5⟩ := hC
  exact ⟨e1, qu_ps, e2', e3, e4, e5⟩
theorem qx_Cst {y : qp_S} {h p k : Nat} {d : Bool} {st ow sl : Nat → Int32} {a : Int32} (hC : qj_R y (h, p, d, st, ow, sl)) : qj_R (qp_up y 57 0 k a) (h, p, d, qj_up st k a, ow, sl) := by
  obtain ⟨e1, e2, e2', e3, e4, e5⟩ := hC
  refine ⟨e1, e2, e2', fun j hj => ?_, e4, e5⟩
  show (qp_up y 57 0 k a) 57 0 j = if j = k then a else st j
  by_cases e : j = k
  · subst e; rw [if_pos rfl]; exact qu_ps
  · rw [if_neg e, qu_pj e]; exact e3 j hj
theorem qx_Cow {y : qp_S} {h p k : Nat} {d : Bool} {st ow sl : Nat → Int32} {a : Int32} (hC : qj_R y (h, p, d, st, ow, sl)) : qj_R (qp_up y 58 0 k a) (h, p, d, st, qj_up ow k a, sl) := by
  obtain ⟨e1, e2, e2', e3, e4, e5⟩ := hC
  refine ⟨e1, e2, e2', e3, fun j hj => ?_, e5⟩
  show (qp_up y 58 0 k a) 58 0 j = if j = k then a else ow j
  by_cases e : j = k
  · subst e; rw [if_pos rfl]; exact qu_ps
  · rw [if_neg e, qu_pj e]; exact e4 j hj
theorem qx_Csl {y : qp_S} {h p k : Nat} {d : Bool} {st ow sl : Nat → Int32} {a : Int32} (hC : qj_R y (h, p, d, st, ow, sl)) : qj_R (qp_up y 59 0 k a) (h, p, d, st, ow, qj_up sl k a) := by
  obtain ⟨e1, e2, e2', e3, e4, e5⟩ := hC
  refine ⟨e1, e2, e2', e3, e4, fun j hj => ?_⟩
  show (qp_up y 59 0 k a) 59 0 j = if j = k then a else sl j
  by_cases e : j = k
  · subst e; rw [if_pos rfl]; exact qu_ps
  · rw [if_neg e, qu_pj e]; exact e5 j hj
theorem qx_mk {y : qp_S} {J : qj} {f : Option (Int32 × qp_S)} {y' : qp_S} (hC : qj_R y' J) (hF : qx_F y y') (hf : f = some (0, y')) : ∃ y' b, f = some (b, y') ∧ qj_R y' J ∧ qx_F y y' := ⟨y', 0, hf, hC, hF⟩
theorem qx_w0 {v : Int32} {h p : Nat} {d : Bool} {st ow sl : Nat → Int32} {y : qp_S} (hC0 : qj_R y (h, p, d, st, ow, sl))
    (hw : qj_w v ≤ 16) (ht : qj_tk (qj_w v) ≤ h) (hh : h ≤ 8) (hh' : qk_h (qj_w v) h ≤ 8) {size : Nat} (hs : size ≤ 32) (hn : qk_n (qj_w v) (qj_n v) size) (e : qj_w v = 0) : ∃ y' b, qf149 v y = some (b, y') ∧ qj_R y' (qj_st v (h, p, d, st, ow, sl)) ∧ qx_F y y' := by
  have l0 : (0:Int32).toInt = 0 := rfl; have l1 : (1:Int32).toInt = 1 := rfl; have lm : (-1:Int32).toInt = -1 := rfl; have l3 : (3:Int32).toInt = 3 := rfl; have l4 : (4:Int32).toInt = 4 := rfl; have l5 : (5:Int32).toInt = 5 := rfl; have l6 : (6:Int32).toInt = 6 := rfl; have l7 : (7:Int32).toInt = 7 := rfl; have l8 : (8:Int32).toInt = 8 := rfl; have l15 : (15:Int32).toInt = 15 := rfl; have l16 : (16:Int32).toInt = 16 := rfl; have l32 : (32:Int32).toInt = 32 := rfl
  obtain ⟨ew, -⟩ := qw_w v
  have hC : qj_R (qp_up y 30 0 34 (Int32.ofNat (p + 1))) (h, p + 1, d, st, ow, sl) := qx_Cp hC0
  unfold qf149
  rw [show v >>> ((6 : Int32) &&& 31) = qj_n v from rfl, ew, hC0.2.1, show Int32.ofNat p + 1 = Int32.ofNat (p + 1) from qv_s1 p]
  obtain ⟨z, hz⟩ : ∃ z, z = qp_up y 30 0 34 (Int32.ofNat (p + 1)) := ⟨_, rfl⟩
  have hzF : qx_F y z := by rw [hz]; exact qx_Fn (by omega) qx_Fr
  rw [← hz] at hC ⊢
  obtain ⟨n1, n2, n3, n4⟩ := hn
  refine ⟨qp_up z 30 0 35 1, 0, by rw [e]; rfl, ?_, qx_Fn (by omega) hzF⟩
  simp only [qj_st, e]
  obtain ⟨e1, e2, e2', e3, e4, e5⟩ := hC
  exact ⟨e1, e2, qu_ps, e3, e4, e5⟩
theorem qx_w1 {v : Int32} {h p : Nat} {d : Bool} {st ow sl : Nat → Int32} {y : qp_S} (hC0 : qj_R y (h, p, d, st, ow, sl))
    (hw : qj_w v ≤ 16) (ht : qj_tk (qj_w v) ≤ h) (hh : h ≤ 8) (hh' : qk_h (qj_w v) h ≤ 8) {size : Nat} (hs : size ≤ 32) (hn : qk_n (qj_w v) (qj_n v) size) (e : qj_w v = 1) : ∃ y' b, qf149 v y = some (b, y') ∧ qj_R y' (qj_st v (h, p, d, st, ow, sl)) ∧ qx_F y y' := by
  have l0 : (0:Int32).toInt = 0 := rfl; have l1 : (1:Int32).toInt = 1 := rfl; have lm : (-1:Int32).toInt = -1 := rfl; have l3 : (3:Int32).toInt = 3 := rfl; have l4 : (4:Int32).toInt = 4 := rfl; have l5 : (5:Int32).toInt = 5 := rfl; have l6 : (6:Int32).toInt = 6 := rfl; have l7 : (7:Int32).toInt = 7 := rfl; have l8 : (8:Int32).toInt = 8 := rfl; have l15 : (15:Int32).toInt = 15 := rfl; have l16 : (16:Int32).toInt = 16 := rfl; have l32 : (32:Int32).toInt = 32 := rfl
  obtain ⟨ew, -⟩ := qw_w v
  have hC : qj_R (qp_up y 30 0 34 (Int32.ofNat (p + 1))) (h, p + 1, d, st, ow, sl) := qx_Cp hC0
  unfold qf149
  rw [show v >>> ((6 : Int32) &&& 31) = qj_n v from rfl, ew, hC0.2.1, show Int32.ofNat p + 1 = Int32.ofNat (p + 1) from qv_s1 p]
  obtain ⟨z, hz⟩ : ∃ z, z = qp_up y 30 0 34 (Int32.ofNat (p + 1)) := ⟨_, rfl⟩
  have hzF : qx_F y z := by rw [hz]; exact qx_Fn (by omega) qx_Fr
  rw [← hz] at hC ⊢
  obtain ⟨n1, n2, n3, n4⟩ := hn
  rw [e] at hh'
  have hh2 : h + 1 ≤ 8 := hh'
  apply qx_mk
  · simp only [qj_st, e]
    exact qx_Cpush (a := qj_n v) hC
  · exact qx_Fn (by omega) (qx_Fu (by omega) hzF)
  · rw [e]
    show ((qf150 (qj_n v) z).bind fun q5 => some (0, q5.2)) = _
    rw [qx_push hC.1 (by omega)]; rfl
theorem qx_w2 {v : Int32} {h p : Nat} {d : Bool} {st ow sl : Nat → Int32} {y : qp_S} (hC0 : qj_R y (h, p, d, st, ow, sl))
    (hw : qj_w v ≤ 16) (ht : qj_tk (qj_w v) ≤ h) (hh : h ≤ 8) (hh' : qk_h (qj_w v) h ≤ 8) {size : Nat} (hs : size ≤ 32) (hn : qk_n (qj_w v) (qj_n v) size) (e : qj_w v = 2) : ∃ y' b, qf149 v y = some (b, y') ∧ qj_R y' (qj_st v (h, p, d, st, ow, sl)) ∧ qx_F y y' := by
  have l0 : (0:Int32).toInt = 0 := rfl; have l1 : (1:Int32).toInt = 1 := rfl; have lm : (-1:Int32).toInt = -1 := rfl; have l3 : (3:Int32).toInt = 3 := rfl; have l4 : (4:Int32).toInt = 4 := rfl; have l5 : (5:Int32).toInt = 5 := rfl; have l6 : (6:Int32).toInt = 6 := rfl; have l7 : (7:Int32).toInt = 7 := rfl; have l8 : (8:Int32).toInt = 8 := rfl; have l15 : (15:Int32).toInt = 15 := rfl; have l16 : (16:Int32).toInt = 16 := rfl; have l32 : (32:Int32).toInt = 32 := rfl
  obtain ⟨ew, -⟩ := qw_w v
  have hC : qj_R (qp_up y 30 0 34 (Int32.ofNat (p + 1))) (h, p + 1, d, st, ow, sl) := qx_Cp hC0
  unfold qf149
  rw [show v >>> ((6 : Int32) &&& 31) = qj_n v from rfl, ew, hC0.2.1, show Int32.ofNat p + 1 = Int32.ofNat (p + 1) from qv_s1 p]
  obtain ⟨z, hz⟩ : ∃ z, z = qp_up y 30 0 34 (Int32.ofNat (p + 1)) := ⟨_, rfl⟩
  have hzF : qx_F y z := by rw [hz]; exact qx_Fn (by omega) qx_Fr
  rw [← hz] at hC ⊢
  obtain ⟨n1, n2, n3, n4⟩ := hn
  rw [e] at hh'
  have hh2 : h + 1 ≤ 8 := hh'
  obtain ⟨k, hk, ek⟩ := qv_ex (a := qj_n v) (N := 6) (n1 (Or.inl e)).1 (n1 (Or.inl e)).2
  have tk := qv_tI k (by omega)
  apply qx_mk
  · simp only [qj_st, e]
    exact qx_Cpush (a := sl (qN (qj_n v))) hC
  · exact qx_Fn (by omega) (qx_Fu (by omega) hzF)
  · rw [e, ek]
    show (if qm_inb (Int32.ofNat k) 6 = true then ((qf150 (z 59 0 (Int32.ofNat k).toNatClampNeg) z).bind fun q3 => some ((0 : Int32), q3.2)) else none) = _
    simp (disch := first | omega | assumption | decide) only [qu_ltT, qu_ltF, qu_gtT, qu_gtF, qu_geT, qu_geF, qu_leT, qu_leF, qu_eqT, qu_eqF, qu_neT, qu_neF, qu_inT, qu_24T, qu_24F, qu_116T, qu_116F, qu_13T, qu_13F, qu_25T, qu_25F, qu_26T, qu_26F, qu_117a, qu_117b, qu_117c, qu_117d, qu_10F, qu_00T, qu_n10, qu_n00, Option.bind_some, cond_true, cond_false, if_true, qv_tN, qv_c6, qv_c4, qv_c8, qv_c32, qv_d4, qv_d16, qv_f4, qv_a1, qv_a2, qv_a3, qv_add, qv_inT]
    rw [hC.2.2.2.2.2 k hk]
    rw [qx_push hC.1 (by omega)]; rfl
theorem qx_w3 {v : Int32} {h p : Nat} {d : Bool} {st ow sl : Nat → Int32} {y : qp_S} (hC0 : qj_R y (h, p, d, st, ow, sl))
    (hw : qj_w v ≤ 16) (ht : qj_tk (qj_w v) ≤ h) (hh : h ≤ 8) (hh' : qk_h (qj_w v) h ≤ 8) {size : Nat} (hs : size ≤ 32) (hn : qk_n (qj_w v) (qj_n v) size) (e : qj_w v = 3) : ∃ y' b, qf149 v y = some (b, y') ∧ qj_R y' (qj_st v (h, p, d, st, ow, sl)) ∧ qx_F y y' := by
  have l0 : (0:Int32).toInt = 0 := rfl; have l1 : (1:Int32).toInt = 1 := rfl; have lm : (-1:Int32).toInt = -1 := rfl; have l3 : (3:Int32).toInt = 3 := rfl; have l4 : (4:Int32).toInt = 4 := rfl; have l5 : (5:Int32).toInt = 5 := rfl; have l6 : (6:Int32).toInt = 6 := rfl; have l7 : (7:Int32).toInt = 7 := rfl; have l8 : (8:Int32).toInt = 8 := rfl; have l15 : (15:Int32).toInt = 15 := rfl; have l16 : (16:Int32).toInt = 16 := rfl; have l32 : (32:Int32).toInt = 32 := rfl
  obtain ⟨ew, -⟩ := qw_w v
  have hC : qj_R (qp_up y 30 0 34 (Int32.ofNat (p + 1))) (h, p + 1, d, st, ow, sl) := qx_Cp hC0
  unfold qf149
  rw [show v >>> ((6 : Int32) &&& 31) = qj_n v from rfl, ew, hC0.2.1, show Int32.ofNat p + 1 = Int32.ofNat (p + 1) from qv_s1 p]
  obtain ⟨z, hz⟩ : ∃ z, z = qp_up y 30 0 34 (Int32.ofNat (p + 1)) := ⟨_, rfl⟩
  have hzF : qx_F y z := by rw [hz]; exact qx_Fn (by omega) qx_Fr
  rw [← hz] at hC ⊢
  obtain ⟨n1, n2, n3, n4⟩ := hn
  obtain ⟨h, rfl⟩ : ∃ z, h = z + 1 := ⟨h - 1, by rw [e] at ht; have : 1 ≤ h := ht; omega⟩
  obtain ⟨k, hk, ek⟩ := qv_ex (a := qj_n v) (N := 6) (n1 (Or.inr e)).1 (n1 (Or.inr e)).2
  have tk := qv_tI k (by omega)
  have eN : qN (qj_n v) = k := by rw [ek]; exact qv_tN k (by omega)
  apply qx_mk
  · simp only [qj_st, e]
    exact qx_Csl (a := st h) (qx_Cpop hC)
  · exact qx_Fu (by omega) (qx_Fn (by omega) hzF)
  · rw [e, eN, ek]
    show ((qf151 z).bind fun q1 => qf149_146 3 (Int32.ofNat k) q1.1 q1.2) = _
    rw [qx_pop hC.1 (by omega), hC.2.2.2.1 h (Nat.lt_succ_self h), Option.bind_some]
    show (if qm_inb (Int32.ofNat k) 6 = true then some ((0 : Int32), qp_up (qp_up z 30 0 33 (Int32.ofNat h)) 59 0 (Int32.ofNat k).toNatClampNeg (st h)) else none) = _
    simp (disch := first | omega | assumption | decide) only [qu_ltT, qu_ltF, qu_gtT, qu_gtF, qu_geT, qu_geF, qu_leT, qu_leF, qu_eqT, qu_eqF, qu_neT, qu_neF, qu_inT, qu_24T, qu_24F, qu_116T, qu_116F, qu_13T, qu_13F, qu_25T, qu_25F, qu_26T, qu_26F, qu_117a, qu_117b, qu_117c, qu_117d, qu_10F, qu_00T, qu_n10, qu_n00, Option.bind_some, cond_true, cond_false, if_true, qv_tN, qv_c6, qv_c4, qv_c8, qv_c32, qv_d4, qv_d16, qv_f4, qv_a1, qv_a2, qv_a3, qv_add, qv_inT]
    rfl
theorem qx_w4 {v : Int32} {h p : Nat} {d : Bool} {st ow sl : Nat → Int32} {y : qp_S} (hC0 : qj_R y (h, p, d, st, ow, sl))
    (hw : qj_w v ≤ 16) (ht : qj_tk (qj_w v) ≤ h) (hh : h ≤ 8) (hh' : qk_h (qj_w v) h ≤ 8) {size : Nat} (hs : size ≤ 32) (hn : qk_n (qj_w v) (qj_n v) size) (e : 4 ≤ qj_w v ∧ qj_w v ≤ 9) : ∃ y' b, qf149 v y = some (b, y') ∧ qj_R y' (qj_st v (h, p, d, st, ow, sl)) ∧ qx_F y y' := by
  have l0 : (0:Int32).toInt = 0 := rfl; have l1 : (1:Int32).toInt = 1 := rfl; have lm : (-1:Int32).toInt = -1 := rfl; have l3 : (3:Int32).toInt = 3 := rfl; have l4 : (4:Int32).toInt = 4 := rfl; have l5 : (5:Int32).toInt = 5 := rfl; have l6 : (6:Int32).toInt = 6 := rfl; have l7 : (7:Int32).toInt = 7 := rfl; have l8 : (8:Int32).toInt = 8 := rfl; have l15 : (15:Int32).toInt = 15 := rfl; have l16 : (16:Int32).toInt = 16 := rfl; have l32 : (32:Int32).toInt = 32 := rfl
  obtain ⟨ew, -⟩ := qw_w v
  have hC : qj_R (qp_up y 30 0 34 (Int32.ofNat (p + 1))) (h, p + 1, d, st, ow, sl) := qx_Cp hC0
  unfold qf149
  rw [show v >>> ((6 : Int32) &&& 31) = qj_n v from rfl, ew, hC0.2.1, show Int32.ofNat p + 1 = Int32.ofNat (p + 1) from qv_s1 p]
  obtain ⟨z, hz⟩ : ∃ z, z = qp_up y 30 0 34 (Int32.ofNat (p + 1)) := ⟨_, rfl⟩
  have hzF : qx_F y z := by rw [hz]; exact qx_Fn (by omega) qx_Fr
  rw [← hz] at hC ⊢
  obtain ⟨n1, n2, n3, n4⟩ := hn
  obtain ⟨h, rfl⟩ : ∃ z, h = z + 2 := ⟨h - 2, by
    have : qj_tk (qj_w v) = 2 := by unfold qj_tk; rw [if_neg (by omega), if_pos (Or.inl e)]
    omega⟩
  have c1 := qx_Cpop hC
  apply qx_mk
  · have : qj_st v (h + 2, p, d, st, ow, sl) = (h + 1, p + 1, d, qj_up st h (qj_rk (qj_w v) (st h) (st (h + 1))), ow, sl) := by
      simp only [qj_st]
      rw [if_neg (by omega), if_neg (by omega), if_neg (by omega), if_neg (by omega), if_pos (by omega)]
      rfl
    rw [this]
    exact qx_Cst (a := qj_rk (qj_w v) (st h) (st (h + 1))) c1
  · exact qx_Fu (by omega) (qx_Fn (by omega) hzF)
  · have hq : ∀ w, 4 ≤ w ∧ w ≤ 9 → ((qf151 z).bind fun q1 => (if qm_inb ((q1.2 30 0 33) - (1 : Int32)) 9 = true then ((qf152 (Int32.ofNat w) (q1.2 57 0 (((q1.2 30 0 33) - (1 : Int32))).toNatClampNeg) (q1.1) q1.2).bind fun q2 => (if qm_inb ((q1.2 30 0 33) - (1 : Int32)) 9 = true then qf149_224 (Int32.ofNat w) (q1.1) (qp_up q1.2 57 0 (((q1.2 30 0 33) - (1 : Int32))).toNatClampNeg q2) else none)) else none)) = some (0, qp_up (qp_up z 30 0 33 (Int32.ofNat (h + 1))) 57 0 h (qj_rk w (st h) (st (h + 1)))) := by
      intro w hw
      rw [qx_pop hC.1 (by omega), Option.bind_some]
      simp only [c1.1, qx_m1]
      simp (disch := first | omega | assumption | decide) only [qu_ltT, qu_ltF, qu_gtT, qu_gtF, qu_geT, qu_geF, qu_leT, qu_leF, qu_eqT, qu_eqF, qu_neT, qu_neF, qu_inT, qu_24T, qu_24F, qu_116T, qu_116F, qu_13T, qu_13F, qu_25T, qu_25F, qu_26T, qu_26F, qu_117a, qu_117b, qu_117c, qu_117d, qu_10F, qu_00T, qu_n10, qu_n00, Option.bind_some, cond_true, cond_false, if_true, qv_tN, qv_c6, qv_c4, qv_c8, qv_c32, qv_d4, qv_d16, qv_f4, qv_a1, qv_a2, qv_a3, qv_add, qv_inT]
      rw [qx_rk hw, Option.bind_some, hC.2.2.2.1 (h + 1) (Nat.lt_succ_self _), c1.2.2.2.1 h (Nat.lt_succ_self _)]
      have : w = 4 ∨ w = 5 ∨ w = 6 ∨ w = 7 ∨ w = 8 ∨ w = 9 := by omega
      rcases this with e | e | e | e | e | e <;> subst e <;> rfl
    have hq' := hq (qj_w v) e
    have : qj_w v = 4 ∨ qj_w v = 5 ∨ qj_w v = 6 ∨ qj_w v = 7 ∨ qj_w v = 8 ∨ qj_w v = 9 := by omega
    rcases this with e | e | e | e | e | e <;> rw [e] at hq' ⊢ <;> exact hq'
theorem qx_w5 {v : Int32} {h p : Nat} {d : Bool} {st ow sl : Nat → Int32} {y : qp_S} (hC0 : qj_R y (h, p, d, st, ow, sl))
    (hw : qj_w v ≤ 16) (ht : qj_tk (qj_w v) ≤ h) (hh : h ≤ 8) (hh' : qk_h (qj_w v) h ≤ 8) {size : Nat} (hs : size ≤ 32) (hn : qk_n (qj_w v) (qj_n v) size) (e : qj_w v = 10) : ∃ y' b, qf149 v y = some (b, y') ∧ qj_R y' (qj_st v (h, p, d, st, ow, sl)) ∧ qx_F y y' := by
  have l0 : (0:Int32).toInt = 0 := rfl; have l1 : (1:Int32).toInt = 1 := rfl; have lm : (-1:Int32).toInt = -1 := rfl; have l3 : (3:Int32).toInt = 3 := rfl; have l4 : (4:Int32).toInt = 4 := rfl; have l5 : (5:Int32).toInt = 5 := rfl; have l6 : (6:Int32).toInt = 6 := rfl; have l7 : (7:Int32).toInt = 7 := rfl; have l8 : (8:Int32).toInt = 8 := rfl; have l15 : (15:Int32).toInt = 15 := rfl; have l16 : (16:Int32).toInt = 16 := rfl; have l32 : (32:Int32).toInt = 32 := rfl
  obtain ⟨ew, -⟩ := qw_w v
  have hC : qj_R (qp_up y 30 0 34 (Int32.ofNat (p + 1))) (h, p + 1, d, st, ow, sl) := qx_Cp hC0
  unfold qf149
  rw [show v >>> ((6 : Int32) &&& 31) = qj_n v from rfl, ew, hC0.2.1, show Int32.ofNat p + 1 = Int32.ofNat (p + 1) from qv_s1 p]
  obtain ⟨z, hz⟩ : ∃ z, z = qp_up y 30 0 34 (Int32.ofNat (p + 1)) := ⟨_, rfl⟩
  have hzF : qx_F y z := by rw [hz]; exact qx_Fn (by omega) qx_Fr
  rw [← hz] at hC ⊢
  obtain ⟨n1, n2, n3, n4⟩ := hn
  have hn2 := n2 (Or.inl e)
  obtain ⟨k, hk, ek⟩ := qv_ex (a := qj_n v) (N := size) hn2.1 hn2.2
  have eN : qN (qj_n v) = k := by rw [ek]; exact qv_tN k (by omega)
  apply qx_mk
  · simp only [qj_st, e]
    exact qx_Cp hC
  · exact qx_Fn (by omega) hzF
  · rw [e, eN, ek]; rfl
theorem qx_w6 {v : Int32} {h p : Nat} {d : Bool} {st ow sl : Nat → Int32} {y : qp_S} (hC0 : qj_R y (h, p, d, st, ow, sl))
    (hw : qj_w v ≤ 16) (ht : qj_tk (qj_w v) ≤ h) (hh : h ≤ 8) (hh' : qk_h (qj_w v) h ≤ 8) {size : Nat} (hs : size ≤ 32) (hn : qk_n (qj_w v) (qj_n v) size) (e : qj_w v = 11) : ∃ y' b, qf149 v y = some (b, y') ∧ qj_R y' (qj_st v (h, p, d, st, ow, sl)) ∧ qx_F y y' := by
  have l0 : (0:Int32).toInt = 0 := rfl; have l1 : (1:Int32).toInt = 1 := rfl; have lm : (-1:Int32).toInt = -1 := rfl; have l3 : (3:Int32).toInt = 3 := rfl; have l4 : (4:Int32).toInt = 4 := rfl; have l5 : (5:Int32).toInt = 5 := rfl; have l6 : (6:Int32).toInt = 6 := rfl; have l7 : (7:Int32).toInt = 7 := rfl; have l8 : (8:Int32).toInt = 8 := rfl; have l15 : (15:Int32).toInt = 15 := rfl; have l16 : (16:Int32).toInt = 16 := rfl; have l32 : (32:Int32).toInt = 32 := rfl
  have l2 : (2:Int32).toInt = 2 := rfl; have l9 : (9:Int32).toInt = 9 := rfl; have l10 : (10:Int32).toInt = 10 := rfl; have l11 : (11:Int32).toInt = 11 := rfl; have l12 : (12:Int32).toInt = 12 := rfl; have l13 : (13:Int32).toInt = 13 := rfl; have l14 : (14:Int32).toInt = 14 := rfl
  have tw := qv_tI 11 (by decide)
  obtain ⟨ew, -⟩ := qw_w v
  have hC : qj_R (qp_up y 30 0 34 (Int32.ofNat (p + 1))) (h, p + 1, d, st, ow, sl) := qx_Cp hC0
  unfold qf149
  rw [show v >>> ((6 : Int32) &&& 31) = qj_n v from rfl, ew, hC0.2.1, show Int32.ofNat p + 1 = Int32.ofNat (p + 1) from qv_s1 p]
  obtain ⟨z, hz⟩ : ∃ z, z = qp_up y 30 0 34 (Int32.ofNat (p + 1)) := ⟨_, rfl⟩
  have hzF : qx_F y z := by rw [hz]; exact qx_Fn (by omega) qx_Fr
  rw [← hz] at hC ⊢
  obtain ⟨n1, n2, n3, n4⟩ := hn
  obtain ⟨h, rfl⟩ : ∃ z, h = z + 1 := ⟨h - 1, by rw [e] at ht; have : 1 ≤ h := ht; omega⟩
  have hn2 := n2 (Or.inr e)
  obtain ⟨k, hk, ek⟩ := qv_ex (a := qj_n v) (N := size) hn2.1 hn2.2
  have eN : qN (qj_n v) = k := by rw [ek]; exact qv_tN k (by omega)
  apply qx_mk
  · simp only [qj_st, e]
    exact qx_Cp (q := if st h = 0 then qN (qj_n v) else p + 1) (qx_Cpop hC)
  · exact qx_Fn (by omega) (qx_Fn (by omega) hzF)
  · rw [e, eN, ek]
    rw [qx_pop hC.1 (by omega)]
    simp (disch := first | omega | assumption | decide) only [qu_ltT, qu_ltF, qu_gtT, qu_gtF, qu_geT, qu_geF, qu_leT, qu_leF, qu_eqT, qu_eqF, qu_neT, qu_neF, qu_inT, qu_24T, qu_24F, qu_116T, qu_116F, qu_13T, qu_13F, qu_25T, qu_25F, qu_26T, qu_26F, qu_117a, qu_117b, qu_117c, qu_117d, qu_10F, qu_00T, qu_n10, qu_n00, Option.bind_some, cond_true, cond_false, if_true, qv_tN, qv_c6, qv_c4, qv_c8, qv_c32, qv_d4, qv_d16, qv_f4, qv_a1, qv_a2, qv_a3, qv_add, qv_inT, qf149_146, qf149_224, qf149_240, qf149_199]
    rw [hC.2.2.2.1 h (Nat.lt_succ_self h)]
    show (bif qm_cmp .ne (st h) (0 : Int32) then some ((0 : Int32), (qp_up (qp_up z 30 0 33 (Int32.ofNat h)) 30 0 34 (z 30 0 34))) else some (0, (qp_up (qp_up z 30 0 33 (Int32.ofNat h)) 30 0 34 (Int32.ofNat k)))) = _
    rw [qv_ne]
    by_cases hz : st h = 0
    · rw [decide_eq_false (fun g => g hz), if_pos hz]; rfl
    · rw [decide_eq_true hz, if_neg hz, hC.2.1]; rfl
theorem qx_w7 {v : Int32} {h p : Nat} {d : Bool} {st ow sl : Nat → Int32} {y : qp_S} (hC0 : qj_R y (h, p, d, st, ow, sl))
    (hw : qj_w v ≤ 16) (ht : qj_tk (qj_w v) ≤ h) (hh : h ≤ 8) (hh' : qk_h (qj_w v) h ≤ 8) {size : Nat} (hs : size ≤ 32) (hn : qk_n (qj_w v) (qj_n v) size) (e : qj_w v = 12) : ∃ y' b, qf149 v y = some (b, y') ∧ qj_R y' (qj_st v (h, p, d, st, ow, sl)) ∧ qx_F y y' := by
  have l0 : (0:Int32).toInt = 0 := rfl; have l1 : (1:Int32).toInt = 1 := rfl; have lm : (-1:Int32).toInt = -1 := rfl; have l3 : (3:Int32).toInt = 3 := rfl; have l4 : (4:Int32).toInt = 4 := rfl; have l5 : (5:Int32).toInt = 5 := rfl; have l6 : (6:Int32).toInt = 6 := rfl; have l7 : (7:Int32).toInt = 7 := rfl; have l8 : (8:Int32).toInt = 8 := rfl; have l15 : (15:Int32).toInt = 15 := rfl; have l16 : (16:Int32).toInt = 16 := rfl; have l32 : (32:Int32).toInt = 32 := rfl
  have l2 : (2:Int32).toInt = 2 := rfl; have l9 : (9:Int32).toInt = 9 := rfl; have l10 : (10:Int32).toInt = 10 := rfl; have l11 : (11:Int32).toInt = 11 := rfl; have l12 : (12:Int32).toInt = 12 := rfl; have l13 : (13:Int32).toInt = 13 := rfl; have l14 : (14:Int32).toInt = 14 := rfl
  have tw := qv_tI 12 (by decide)
  obtain ⟨ew, -⟩ := qw_w v
  have hC : qj_R (qp_up y 30 0 34 (Int32.ofNat (p + 1))) (h, p + 1, d, st, ow, sl) := qx_Cp hC0
  unfold qf149
  rw [show v >>> ((6 : Int32) &&& 31) = qj_n v from rfl, ew, hC0.2.1, show Int32.ofNat p + 1 = Int32.ofNat (p + 1) from qv_s1 p]
  obtain ⟨z, hz⟩ : ∃ z, z = qp_up y 30 0 34 (Int32.ofNat (p + 1)) := ⟨_, rfl⟩
  have hzF : qx_F y z := by rw [hz]; exact qx_Fn (by omega) qx_Fr
  rw [← hz] at hC ⊢
  obtain ⟨n1, n2, n3, n4⟩ := hn
  obtain ⟨h, rfl⟩ : ∃ z, h = z + 1 := ⟨h - 1, by rw [e] at ht; have : 1 ≤ h := ht; omega⟩
  rw [e] at hh'
  have hh2 : h + 2 ≤ 8 := hh'
  refine ⟨qp_up (qp_up (qp_up z 30 0 33 (Int32.ofNat h)) 57 0 (h + 1) (st h)) 30 0 33 (Int32.ofNat (h + 2)), 0, ?_, ?_, qx_Fn (by omega) (qx_Fu (by omega) (qx_Fn (by omega) hzF))⟩
  · rw [e]
    rw [qx_pop hC.1 (by omega)]
    simp (disch := first | omega | assumption | decide) only [qu_ltT, qu_ltF, qu_gtT, qu_gtF, qu_geT, qu_geF, qu_leT, qu_leF, qu_eqT, qu_eqF, qu_neT, qu_neF, qu_inT, qu_24T, qu_24F, qu_116T, qu_116F, qu_13T, qu_13F, qu_25T, qu_25F, qu_26T, qu_26F, qu_117a, qu_117b, qu_117c, qu_117d, qu_10F, qu_00T, qu_n10, qu_n00, Option.bind_some, cond_true, cond_false, if_true, qv_tN, qv_c6, qv_c4, qv_c8, qv_c32, qv_d4, qv_d16, qv_f4, qv_a1, qv_a2, qv_a3, qv_add, qv_inT, qf149_146, qf149_224, qf149_240, qf149_199]
    rw [hC.2.2.2.1 h (Nat.lt_succ_self h)]
    simp (disch := first | omega | assumption | decide) only [qu_ltT, qu_ltF, qu_gtT, qu_gtF, qu_geT, qu_geF, qu_leT, qu_leF, qu_eqT, qu_eqF, qu_neT, qu_neF, qu_inT, qu_24T, qu_24F, qu_116T, qu_116F, qu_13T, qu_13F, qu_25T, qu_25F, qu_26T, qu_26F, qu_117a, qu_117b, qu_117c, qu_117d, qu_10F, qu_00T, qu_n10, qu_n00, Option.bind_some, cond_true, cond_false, if_true, qv_tN, qv_c6, qv_c4, qv_c8, qv_c32, qv_d4, qv_d16, qv_f4, qv_a1, qv_a2, qv_a3, qv_add, qv_inT, qu_ps, qu_pk]
  · simp only [qj_st, e]
    obtain ⟨e1, e2, e2', e3, e4, e5⟩ := hC
    refine ⟨qu_ps, e2, e2', fun j hj => ?_, e4, e5⟩
    show (qp_up (qp_up z 30 0 33 (Int32.ofNat h)) 57 0 (h + 1) (st h)) 57 0 j = if j = h + 1 then st h else st j
    by_cases ej : j = h + 1
    · subst ej; rw [if_pos rfl]; exact qu_ps
    · rw [if_neg ej, qu_pj ej]; exact e3 j (by have : j < h + 2 := hj; show j < h + 1; omega)
theorem qx_w8 {v : Int32} {h p : Nat} {d : Bool} {st ow sl : Nat → Int32} {y : qp_S} (hC0 : qj_R y (h, p, d, st, ow, sl))
    (hw : qj_w v ≤ 16) (ht : qj_tk (qj_w v) ≤ h) (hh : h ≤ 8) (hh' : qk_h (qj_w v) h ≤ 8) {size : Nat} (hs : size ≤ 32) (hn : qk_n (qj_w v) (qj_n v) size) (e : qj_w v = 13) : ∃ y' b, qf149 v y = some (b, y') ∧ qj_R y' (qj_st v (h, p, d, st, ow, sl)) ∧ qx_F y y' := by
  have l0 : (0:Int32).toInt = 0 := rfl; have l1 : (1:Int32).toInt = 1 := rfl; have lm : (-1:Int32).toInt = -1 := rfl; have l3 : (3:Int32).toInt = 3 := rfl; have l4 : (4:Int32).toInt = 4 := rfl; have l5 : (5:Int32).toInt = 5 := rfl; have l6 : (6:Int32).toInt = 6 := rfl; have l7 : (7:Int32).toInt = 7 := rfl; have l8 : (8:Int32).toInt = 8 := rfl; have l15 : (15:Int32).toInt = 15 := rfl; have l16 : (16:Int32).toInt = 16 := rfl; have l32 : (32:Int32).toInt = 32 := rfl
  obtain ⟨ew, -⟩ := qw_w v
  have hC : qj_R (qp_up y 30 0 34 (Int32.ofNat (p + 1))) (h, p + 1, d, st, ow, sl) := qx_Cp hC0
  unfold qf149
  rw [show v >>> ((6 : Int32) &&& 31) = qj_n v from rfl, ew, hC0.2.1, show Int32.ofNat p + 1 = Int32.ofNat (p + 1) from qv_s1 p]
  obtain ⟨z, hz⟩ : ∃ z, z = qp_up y 30 0 34 (Int32.ofNat (p + 1)) := ⟨_, rfl⟩
  have hzF : qx_F y z := by rw [hz]; exact qx_Fn (by omega) qx_Fr
  rw [← hz] at hC ⊢
  obtain ⟨n1, n2, n3, n4⟩ := hn
  obtain ⟨h, rfl⟩ : ∃ z, h = z + 2 := ⟨h - 2, by rw [e] at ht; have : 2 ≤ h := ht; omega⟩
  have c1 := qx_Cpop hC
  have c2 := qx_Cst (k := h) (a := st (h + 1)) c1
  have c3 := qx_Cpush (a := st h) c2
  apply qx_mk
  · simp only [qj_st, e]
    exact c3
  · exact qx_Fn (by omega) (qx_Fu (by omega) (qx_Fu (by omega) (qx_Fn (by omega) hzF)))
  · rw [e]
    show ((qf151 z).bind fun q1 => qf149_240 13 q1.1 q1.2) = _
    rw [qx_pop hC.1 (by omega), hC.2.2.2.1 (h + 1) (Nat.lt_succ_self _), Option.bind_some]
    show qf149_240 13 (st (h + 1)) (qp_up z 30 0 33 (Int32.ofNat (h + 1))) = _
    unfold qf149_240
    simp only [c1.1, qx_m1]
    rw [show qm_cmp .eq (13 : Int32) 13 = true from rfl, cond_true]
    simp (disch := first | omega | assumption | decide) only [qu_ltT, qu_ltF, qu_gtT, qu_gtF, qu_geT, qu_geF, qu_leT, qu_leF, qu_eqT, qu_eqF, qu_neT, qu_neF, qu_inT, qu_24T, qu_24F, qu_116T, qu_116F, qu_13T, qu_13F, qu_25T, qu_25F, qu_26T, qu_26F, qu_117a, qu_117b, qu_117c, qu_117d, qu_10F, qu_00T, qu_n10, qu_n00, Option.bind_some, cond_true, cond_false, if_true, qv_tN, qv_c6, qv_c4, qv_c8, qv_c32, qv_d4, qv_d16, qv_f4, qv_a1, qv_a2, qv_a3, qv_add, qv_inT]
    rw [qx_push c2.1 (by omega), c1.2.2.2.1 h (Nat.lt_succ_self _)]
    rfl
theorem qx_w9 {v : Int32} {h p : Nat} {d : Bool} {st ow sl : Nat → Int32} {y : qp_S} (hC0 : qj_R y (h, p, d, st, ow, sl))
    (hw : qj_w v ≤ 16) (ht : qj_tk (qj_w v) ≤ h) (hh : h ≤ 8) (hh' : qk_h (qj_w v) h ≤ 8) {size : Nat} (hs : size ≤ 32) (hn : qk_n (qj_w v) (qj_n v) size) (e : qj_w v = 14) : ∃ y' b, qf149 v y = some (b, y') ∧ qj_R y' (qj_st v (h, p, d, st, ow, sl)) ∧ qx_F y y' := by
  have l0 : (0:Int32).toInt = 0 := rfl; have l1 : (1:Int32).toInt = 1 := rfl; have lm : (-1:Int32).toInt = -1 := rfl; have l3 : (3:Int32).toInt = 3 := rfl; have l4 : (4:Int32).toInt = 4 := rfl; have l5 : (5:Int32).toInt = 5 := rfl; have l6 : (6:Int32).toInt = 6 := rfl; have l7 : (7:Int32).toInt = 7 := rfl; have l8 : (8:Int32).toInt = 8 := rfl; have l15 : (15:Int32).toInt = 15 := rfl; have l16 : (16:Int32).toInt = 16 := rfl; have l32 : (32:Int32).toInt = 32 := rfl
  have l2 : (2:Int32).toInt = 2 := rfl; have l9 : (9:Int32).toInt = 9 := rfl; have l10 : (10:Int32).toInt = 10 := rfl; have l11 : (11:Int32).toInt = 11 := rfl; have l12 : (12:Int32).toInt = 12 := rfl; have l13 : (13:Int32).toInt = 13 := rfl; have l14 : (14:Int32).toInt = 14 := rfl
  have tw := qv_tI 14 (by decide)
  obtain ⟨ew, -⟩ := qw_w v
  have hC : qj_R (qp_up y 30 0 34 (Int32.ofNat (p + 1))) (h, p + 1, d, st, ow, sl) := qx_Cp hC0
  unfold qf149
  rw [show v >>> ((6 : Int32) &&& 31) = qj_n v from rfl, ew, hC0.2.1, show Int32.ofNat p + 1 = Int32.ofNat (p + 1) from qv_s1 p]
  obtain ⟨z, hz⟩ : ∃ z, z = qp_up y 30 0 34 (Int32.ofNat (p + 1)) := ⟨_, rfl⟩
  have hzF : qx_F y z := by rw [hz]; exact qx_Fn (by omega) qx_Fr
  rw [← hz] at hC ⊢
  obtain ⟨n1, n2, n3, n4⟩ := hn
  obtain ⟨h, rfl⟩ : ∃ z, h = z + 1 := ⟨h - 1, by rw [e] at ht; have : 1 ≤ h := ht; omega⟩
  apply qx_mk
  · simp only [qj_st, e]
    exact qx_Cpop hC
  · exact qx_Fn (by omega) hzF
  · rw [e]
    rw [qx_pop hC.1 (by omega)]
    simp (disch := first | omega | assumption | decide) only [qu_ltT, qu_ltF, qu_gtT, qu_gtF, qu_geT, qu_geF, qu_leT, qu_leF, qu_eqT, qu_eqF, qu_neT, qu_neF, qu_inT, qu_24T, qu_24F, qu_116T, qu_116F, qu_13T, qu_13F, qu_25T, qu_25F, qu_26T, qu_26F, qu_117a, qu_117b, qu_117c, qu_117d, qu_10F, qu_00T, qu_n10, qu_n00, Option.bind_some, cond_true, cond_false, if_true, qv_tN, qv_c6, qv_c4, qv_c8, qv_c32, qv_d4, qv_d16, qv_f4, qv_a1, qv_a2, qv_a3, qv_add, qv_inT, qf149_146, qf149_224, qf149_240, qf149_199]
    rfl
theorem qx_w10 {v : Int32} {h p : Nat} {d : Bool} {st ow sl : Nat → Int32} {y : qp_S} (hC0 : qj_R y (h, p, d, st, ow, sl))
    (hw : qj_w v ≤ 16) (ht : qj_tk (qj_w v) ≤ h) (hh : h ≤ 8) (hh' : qk_h (qj_w v) h ≤ 8) {size : Nat} (hs : size ≤ 32) (hn : qk_n (qj_w v) (qj_n v) size) (e : qj_w v = 15) : ∃ y' b, qf149 v y = some (b, y') ∧ qj_R y' (qj_st v (h, p, d, st, ow, sl)) ∧ qx_F y y' := by
  have l0 : (0:Int32).toInt = 0 := rfl; have l1 : (1:Int32).toInt = 1 := rfl; have lm : (-1:Int32).toInt = -1 := rfl; have l3 : (3:Int32).toInt = 3 := rfl; have l4 : (4:Int32).toInt = 4 := rfl; have l5 : (5:Int32).toInt = 5 := rfl; have l6 : (6:Int32).toInt = 6 := rfl; have l7 : (7:Int32).toInt = 7 := rfl; have l8 : (8:Int32).toInt = 8 := rfl; have l15 : (15:Int32).toInt = 15 := rfl; have l16 : (16:Int32).toInt = 16 := rfl; have l32 : (32:Int32).toInt = 32 := rfl
  obtain ⟨ew, -⟩ := qw_w v
  have hC : qj_R (qp_up y 30 0 34 (Int32.ofNat (p + 1))) (h, p + 1, d, st, ow, sl) := qx_Cp hC0
  unfold qf149
  rw [show v >>> ((6 : Int32) &&& 31) = qj_n v from rfl, ew, hC0.2.1, show Int32.ofNat p + 1 = Int32.ofNat (p + 1) from qv_s1 p]
  obtain ⟨z, hz⟩ : ∃ z, z = qp_up y 30 0 34 (Int32.ofNat (p + 1)) := ⟨_, rfl⟩
  have hzF : qx_F y z := by rw [hz]; exact qx_Fn (by omega) qx_Fr
  rw [← hz] at hC ⊢
  obtain ⟨n1, n2, n3, n4⟩ := hn
  rw [e] at hh'
  have hh2 : h + 1 ≤ 8 := hh'
  obtain ⟨k, hk, ek⟩ := qv_ex (a := qj_n v) (N := 4) (n3 (Or.inl e)).1 (n3 (Or.inl e)).2
  have tk := qv_tI k (by omega)
  apply qx_mk
  · simp only [qj_st, e]
    exact qx_Cpush (a := ow (qN (qj_n v))) hC
  · exact qx_Fn (by omega) (qx_Fu (by omega) hzF)
  · rw [e, ek]
    show (if qm_inb (Int32.ofNat k) 4 = true then ((qf150 (z 58 0 (Int32.ofNat k).toNatClampNeg) z).bind fun q3 => some ((0 : Int32), q3.2)) else none) = _
    simp (disch := first | omega | assumption | decide) only [qu_ltT, qu_ltF, qu_gtT, qu_gtF, qu_geT, qu_geF, qu_leT, qu_leF, qu_eqT, qu_eqF, qu_neT, qu_neF, qu_inT, qu_24T, qu_24F, qu_116T, qu_116F, qu_13T, qu_13F, qu_25T, qu_25F, qu_26T, qu_26F, qu_117a, qu_117b, qu_117c, qu_117d, qu_10F, qu_00T, qu_n10, qu_n00, Option.bind_some, cond_true, cond_false, if_true, qv_tN, qv_c6, qv_c4, qv_c8, qv_c32, qv_d4, qv_d16, qv_f4, qv_a1, qv_a2, qv_a3, qv_add, qv_inT]
    rw [hC.2.2.2.2.1 k hk]
    rw [qx_push hC.1 (by omega)]; rfl
theorem qx_w11 {v : Int32} {h p : Nat} {d : Bool} {st ow sl : Nat → Int32} {y : qp_S} (hC0 : qj_R y (h, p, d, st, ow, sl))
    (hw : qj_w v ≤ 16) (ht : qj_tk (qj_w v) ≤ h) (hh : h ≤ 8) (hh' : qk_h (qj_w v) h ≤ 8) {size : Nat} (hs : size ≤ 32) (hn : qk_n (qj_w v) (qj_n v) size) (e : qj_w v = 16) : ∃ y' b, qf149 v y = some (b, y') ∧ qj_R y' (qj_st v (h, p, d, st, ow, sl)) ∧ qx_F y y' := by
  have l0 : (0:Int32).toInt = 0 := rfl; have l1 : (1:Int32).toInt = 1 := rfl; have lm : (-1:Int32).toInt = -1 := rfl; have l3 : (3:Int32).toInt = 3 := rfl; have l4 : (4:Int32).toInt = 4 := rfl; have l5 : (5:Int32).toInt = 5 := rfl; have l6 : (6:Int32).toInt = 6 := rfl; have l7 : (7:Int32).toInt = 7 := rfl; have l8 : (8:Int32).toInt = 8 := rfl; have l15 : (15:Int32).toInt = 15 := rfl; have l16 : (16:Int32).toInt = 16 := rfl; have l32 : (32:Int32).toInt = 32 := rfl
  have l2 : (2:Int32).toInt = 2 := rfl; have l9 : (9:Int32).toInt = 9 := rfl; have l10 : (10:Int32).toInt = 10 := rfl; have l11 : (11:Int32).toInt = 11 := rfl; have l12 : (12:Int32).toInt = 12 := rfl; have l13 : (13:Int32).toInt = 13 := rfl; have l14 : (14:Int32).toInt = 14 := rfl
  have tw := qv_tI 16 (by decide)
  obtain ⟨ew, -⟩ := qw_w v
  have hC : qj_R (qp_up y 30 0 34 (Int32.ofNat (p + 1))) (h, p + 1, d, st, ow, sl) := qx_Cp hC0
  unfold qf149
  rw [show v >>> ((6 : Int32) &&& 31) = qj_n v from rfl, ew, hC0.2.1, show Int32.ofNat p + 1 = Int32.ofNat (p + 1) from qv_s1 p]
  obtain ⟨z, hz⟩ : ∃ z, z = qp_up y 30 0 34 (Int32.ofNat (p + 1)) := ⟨_, rfl⟩
  have hzF : qx_F y z := by rw [hz]; exact qx_Fn (by omega) qx_Fr
  rw [← hz] at hC ⊢
  obtain ⟨n1, n2, n3, n4⟩ := hn
  obtain ⟨h, rfl⟩ : ∃ z, h = z + 1 := ⟨h - 1, by rw [e] at ht; have : 1 ≤ h := ht; omega⟩
  obtain ⟨k, hk, ek⟩ := qv_ex (a := qj_n v) (N := 4) (n3 (Or.inr e)).1 (n3 (Or.inr e)).2
  have tk := qv_tI k (by omega)
  have eN : qN (qj_n v) = k := by rw [ek]; exact qv_tN k (by omega)
  apply qx_mk
  · simp only [qj_st, e]
    exact qx_Cow (a := st h) (qx_Cpop hC)
  · exact qx_Fu (by omega) (qx_Fn (by omega) hzF)
  · rw [e, eN, ek]
    rw [qx_pop hC.1 (by omega)]
    simp (disch := first | omega | assumption | decide) only [qu_ltT, qu_ltF, qu_gtT, qu_gtF, qu_geT, qu_geF, qu_leT, qu_leF, qu_eqT, qu_eqF, qu_neT, qu_neF, qu_inT, qu_24T, qu_24F, qu_116T, qu_116F, qu_13T, qu_13F, qu_25T, qu_25F, qu_26T, qu_26F, qu_117a, qu_117b, qu_117c, qu_117d, qu_10F, qu_00T, qu_n10, qu_n00, Option.bind_some, cond_true, cond_false, if_true, qv_tN, qv_c6, qv_c4, qv_c8, qv_c32, qv_d4, qv_d16, qv_f4, qv_a1, qv_a2, qv_a3, qv_add, qv_inT, qf149_146, qf149_224, qf149_240, qf149_199]
    rw [hC.2.2.2.1 h (Nat.lt_succ_self h)]
    rfl
theorem qx_149 {v : Int32} {h p : Nat} {d : Bool} {st ow sl : Nat → Int32} {y : qp_S} (hC0 : qj_R y (h, p, d, st, ow, sl))
    (hw : qj_w v ≤ 16) (ht : qj_tk (qj_w v) ≤ h) (hh : h ≤ 8) (hh' : qk_h (qj_w v) h ≤ 8) {size : Nat} (hs : size ≤ 32) (hn : qk_n (qj_w v) (qj_n v) size) : ∃ y' b, qf149 v y = some (b, y') ∧ qj_R y' (qj_st v (h, p, d, st, ow, sl)) ∧ qx_F y y' := by
  have hwc : qj_w v = 0 ∨ qj_w v = 1 ∨ qj_w v = 2 ∨ qj_w v = 3 ∨ (4 ≤ qj_w v ∧ qj_w v ≤ 9) ∨ qj_w v = 10 ∨ qj_w v = 11 ∨ qj_w v = 12 ∨ qj_w v = 13 ∨ qj_w v = 14 ∨ qj_w v = 15 ∨ qj_w v = 16 := by omega
  rcases hwc with e | e | e | e | e | e | e | e | e | e | e | e
  · exact qx_w0 hC0 hw ht hh hh' hs hn e
  · exact qx_w1 hC0 hw ht hh hh' hs hn e
  · exact qx_w2 hC0 hw ht hh hh' hs hn e
  · exact qx_w3 hC0 hw ht hh hh' hs hn e
  · exact qx_w4 hC0 hw ht hh hh' hs hn e
  · exact qx_w5 hC0 hw ht hh hh' hs hn e
  · exact qx_w6 hC0 hw ht hh hh' hs hn e
  · exact qx_w7 hC0 hw ht hh hh' hs hn e
  · exact qx_w8 hC0 hw ht hh hh' hs hn e
  · exact qx_w9 hC0 hw ht hh hh' hs hn e
  · exact qx_w10 hC0 hw ht hh hh' hs hn e
  · exact qx_w11 hC0 hw ht hh hh' hs hn e
