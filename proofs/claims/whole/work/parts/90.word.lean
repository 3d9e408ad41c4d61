/-! one word of a job, in the class -/
theorem qw_and (v : Int32) : 0 ≤ (v &&& 63).toInt ∧ (v &&& 63).toInt ≤ 63 := by
  have h : (v &&& 63).toBitVec.toNat ≤ 63 := by
    rw [Int32.toBitVec_and, BitVec.toNat_and]
    exact Nat.and_le_right
  have e : (v &&& 63).toInt = ((v &&& 63).toBitVec.toNat : Int) := by
    show (v &&& 63).toBitVec.toInt = _
    exact BitVec.toInt_eq_toNat_of_lt (by omega)
  omega
theorem qw_w (v : Int32) : v &&& 63 = Int32.ofNat (qj_w v) ∧ qj_w v ≤ 63 := by
  have h := qw_and v
  obtain ⟨k, hk, e⟩ := qv_ex (a := v &&& 63) (N := 64) h.1 (by omega)
  unfold qj_w
  rw [e, qv_tN k (by omega)]
  exact ⟨rfl, by omega⟩
theorem qw_push {x : qp_S} {i h : Nat} {a : Int32} (e : x 19 i 1 = Int32.ofNat h) (hh : h < 8) : qf97 i a x = some (0, qp_up (qp_up x 20 i h a) 19 i 1 (Int32.ofNat (h + 1))) := by
  have l0 : (0:Int32).toInt = 0 := rfl; have l1 : (1:Int32).toInt = 1 := rfl; have lm : (-1:Int32).toInt = -1 := rfl; have l3 : (3:Int32).toInt = 3 := rfl; have l4 : (4:Int32).toInt = 4 := rfl; have l5 : (5:Int32).toInt = 5 := rfl; have l6 : (6:Int32).toInt = 6 := rfl; have l7 : (7:Int32).toInt = 7 := rfl; have l8 : (8:Int32).toInt = 8 := rfl; have l15 : (15:Int32).toInt = 15 := rfl; have l16 : (16:Int32).toInt = 16 := rfl; have l32 : (32:Int32).toInt = 32 := rfl
  have th := qv_tI h (by omega)
  have e2 : (qp_up x 20 i h a) 19 i 1 = Int32.ofNat h := e
  simp (disch := first | omega | assumption | decide) only [qf97, e, e2, qu_ltT, qu_ltF, qu_gtT, qu_gtF, qu_geT, qu_geF, qu_leT, qu_leF, qu_eqT, qu_eqF, qu_neT, qu_neF, qu_inT, qu_24T, qu_24F, qu_116T, qu_116F, qu_13T, qu_13F, qu_25T, qu_25F, qu_26T, qu_26F, qu_117a, qu_117b, qu_117c, qu_117d, qu_10F, qu_00T, qu_n10, qu_n00, Option.bind_some, cond_true, cond_false, if_true, qv_tN, qv_c6, qv_c4, qv_c8, qv_c32, qv_d4, qv_d16, qv_f4, qv_a1, qv_a2, qv_a3, qv_add, qv_inT]
theorem qw_pop {x : qp_S} {i h : Nat} (e : x 19 i 1 = Int32.ofNat (h + 1)) (hh : h < 8) : qf98 i x = some (x 20 i h, qp_up x 19 i 1 (Int32.ofNat h)) := by
  have l0 : (0:Int32).toInt = 0 := rfl; have l1 : (1:Int32).toInt = 1 := rfl; have lm : (-1:Int32).toInt = -1 := rfl; have l3 : (3:Int32).toInt = 3 := rfl; have l4 : (4:Int32).toInt = 4 := rfl; have l5 : (5:Int32).toInt = 5 := rfl; have l6 : (6:Int32).toInt = 6 := rfl; have l7 : (7:Int32).toInt = 7 := rfl; have l8 : (8:Int32).toInt = 8 := rfl; have l15 : (15:Int32).toInt = 15 := rfl; have l16 : (16:Int32).toInt = 16 := rfl; have l32 : (32:Int32).toInt = 32 := rfl
  have th := qv_tI (h + 1) (by omega)
  have e3 : Int32.ofNat (h + 1) - 1 = Int32.ofNat h := by
    rw [Int32.ofNat_add]; exact Int32.add_sub_cancel _ _
  simp (disch := first | omega | assumption | decide) only [qf98, e, e3, qu_ps, qu_pk, qu_ltT, qu_ltF, qu_gtT, qu_gtF, qu_geT, qu_geF, qu_leT, qu_leF, qu_eqT, qu_eqF, qu_neT, qu_neF, qu_inT, qu_24T, qu_24F, qu_116T, qu_116F, qu_13T, qu_13F, qu_25T, qu_25F, qu_26T, qu_26F, qu_117a, qu_117b, qu_117c, qu_117d, qu_10F, qu_00T, qu_n10, qu_n00, Option.bind_some, cond_true, cond_false, if_true, qv_tN, qv_c6, qv_c4, qv_c8, qv_c32, qv_d4, qv_d16, qv_f4, qv_a1, qv_a2, qv_a3, qv_add, qv_inT]
theorem qw_top {x : qp_S} {i h : Nat} (e : x 19 i 1 = Int32.ofNat (h + 1)) (hh : h < 8) : qf19 i x = some (x 20 i h) := by
  have l0 : (0:Int32).toInt = 0 := rfl; have l1 : (1:Int32).toInt = 1 := rfl; have lm : (-1:Int32).toInt = -1 := rfl; have l3 : (3:Int32).toInt = 3 := rfl; have l4 : (4:Int32).toInt = 4 := rfl; have l5 : (5:Int32).toInt = 5 := rfl; have l6 : (6:Int32).toInt = 6 := rfl; have l7 : (7:Int32).toInt = 7 := rfl; have l8 : (8:Int32).toInt = 8 := rfl; have l15 : (15:Int32).toInt = 15 := rfl; have l16 : (16:Int32).toInt = 16 := rfl; have l32 : (32:Int32).toInt = 32 := rfl
  have th := qv_tI (h + 1) (by omega)
  have e3 : Int32.ofNat (h + 1) - 1 = Int32.ofNat h := by
    rw [Int32.ofNat_add]; exact Int32.add_sub_cancel _ _
  simp (disch := first | omega | assumption | decide) only [qf19, e, e3, qu_ltT, qu_ltF, qu_gtT, qu_gtF, qu_geT, qu_geF, qu_leT, qu_leF, qu_eqT, qu_eqF, qu_neT, qu_neF, qu_inT, qu_24T, qu_24F, qu_116T, qu_116F, qu_13T, qu_13F, qu_25T, qu_25F, qu_26T, qu_26F, qu_117a, qu_117b, qu_117c, qu_117d, qu_10F, qu_00T, qu_n10, qu_n00, Option.bind_some, cond_true, cond_false, if_true, qv_tN, qv_c6, qv_c4, qv_c8, qv_c32, qv_d4, qv_d16, qv_f4, qv_a1, qv_a2, qv_a3, qv_add, qv_inT]
theorem qw_rk {w : Nat} (hw : 4 ≤ w ∧ w ≤ 9) (a b : Int32) (s : qp_S) : qf103 (Int32.ofNat w) a b s = some (qj_rk w a b) := by
  have : w = 4 ∨ w = 5 ∨ w = 6 ∨ w = 7 ∨ w = 8 ∨ w = 9 := by omega
  rcases this with e | e | e | e | e | e <;> subst e
  · rfl
  · rfl
  · rfl
  · show (bif qm_cmp .ne b 0 then (if b = 0 then none else some (a / b)) else some 0) = some (if b = 0 then 0 else a / b)
    by_cases hb : b = 0
    · subst hb; rfl
    · rw [qv_ne, decide_eq_true hb, if_neg hb, if_neg hb]; rfl
  · show (bif qm_cmp .ge a b then some 0 else some 1) = some (qv_b (decide (a.toInt < b.toInt)))
    by_cases hb : a.toInt < b.toInt
    · rw [qu_geF hb, decide_eq_true hb]; rfl
    · rw [qu_geT (by omega), decide_eq_false hb]; rfl
  · show (bif qm_cmp .ne a b then some 0 else some 1) = some (qv_b (decide (a = b)))
    rw [qv_ne]
    by_cases hb : a = b
    · rw [decide_eq_true hb, decide_eq_false (by simp [hb])]; rfl
    · rw [decide_eq_false hb, decide_eq_true hb]; rfl
/-- what a word leaves as it was -/
def qw_F (v : Int32) (i : Nat) (x x' : qp_S) : Prop := ∀ k a c, ¬ (k = 14 ∧ a = i ∧ c = 10) → ¬ ((k = 18 ∨ k = 19 ∨ k = 20) ∧ a = i) → ¬ (k = 16 ∧ c = 2 ∧ qj_w v = 3 ∧ a = 6 * i + qN (qj_n v)) → x' k a c = x k a c
theorem qw_Fr {v : Int32} {i : Nat} {x : qp_S} : qw_F v i x x := fun _ _ _ _ _ _ => rfl
theorem qw_Fu {v a : Int32} {i k c : Nat} {x x' : qp_S} (hk : k = 18 ∨ k = 19 ∨ k = 20) (h : qw_F v i x x') : qw_F v i x (qp_up x' k i c a) := by
  intro k' a' c' n1 n2 n3
  rw [← h k' a' c' n1 n2 n3]
  refine if_neg (fun e => n2 ⟨?_, e.2.1⟩)
  rw [e.1]; exact hk
theorem qw_Fn {v a : Int32} {i : Nat} {x x' : qp_S} (h : qw_F v i x x') : qw_F v i x (qp_up x' 14 i 10 a) := by
  intro k' a' c' n1 n2 n3
  rw [← h k' a' c' n1 n2 n3]
  exact if_neg n1
theorem qw_Fs {v a : Int32} {i : Nat} {x x' : qp_S} (hw : qj_w v = 3) (h : qw_F v i x x') : qw_F v i x (qp_up x' 16 (6 * i + qN (qj_n v)) 2 a) := by
  intro k' a' c' n1 n2 n3
  rw [← h k' a' c' n1 n2 n3]
  exact if_neg (fun e => n3 ⟨e.1, e.2.2, hw, e.2.1⟩)
theorem qw_Cpush {x : qp_S} {i h p : Nat} {d : Bool} {st ow sl : Nat → Int32} {a : Int32} (hC : qj_C x i (h, p, d, st, ow, sl)) : qj_C (qp_up (qp_up x 20 i h a) 19 i 1 (Int32.ofNat (h + 1))) i (h + 1, p, d, qj_up st h a, ow, sl) := by
  obtain ⟨e1, e2, e3, e4, e5⟩ := hC
  refine ⟨qu_ps, e2, fun j hj => ?_, e4, e5⟩
  show (qp_up x 20 i h a) 20 i j = if j = h then a else st j
  by_cases e : j = h
  · subst e; rw [if_pos rfl]; exact qu_ps
  · rw [if_neg e, qu_pj e]; exact e3 j (by have : j < h + 1 := hj; omega)
theorem qw_Cpop {x : qp_S} {i h p : Nat} {d : Bool} {st ow sl : Nat → Int32} (hC : qj_C x i (h + 1, p, d, st, ow, sl)) : qj_C (qp_up x 19 i 1 (Int32.ofNat h)) i (h, p, d, st, ow, sl) := by
  obtain ⟨e1, e2, e3, e4, e5⟩ := hC
  exact ⟨qu_ps, e2, fun j hj => e3 j (Nat.lt_succ_of_lt hj), e4, e5⟩
theorem qw_Cp {x : qp_S} {i h p q : Nat} {d : Bool} {st ow sl : Nat → Int32} (hC : qj_C x i (h, p, d, st, ow, sl)) : qj_C (qp_up x 14 i 10 (Int32.ofNat q)) i (h, q, d, st, ow, sl) := by
  obtain ⟨e1, e2, e3, e4, e5⟩ := hC
  exact ⟨e1, qu_ps, e3, e4, e5⟩
theorem qw_Cow {x : qp_S} {i h p k : Nat} {d : Bool} {st ow sl : Nat → Int32} {a : Int32} (hC : qj_C x i (h, p, d, st, ow, sl)) : qj_C (qp_up x 18 i k a) i (h, p, d, st, qj_up ow k a, sl) := by
  obtain ⟨e1, e2, e3, e4, e5⟩ := hC
  refine ⟨e1, e2, e3, fun j hj => ?_, e5⟩
  show (qp_up x 18 i k a) 18 i j = if j = k then a else ow j
  by_cases e : j = k
  · subst e; rw [if_pos rfl]; exact qu_ps
  · rw [if_neg e, qu_pj e]; exact e4 j hj
theorem qw_Csl {x : qp_S} {i h p k : Nat} {d : Bool} {st ow sl : Nat → Int32} {a : Int32} (hC : qj_C x i (h, p, d, st, ow, sl)) : qj_C (qp_up x 16 (6 * i + k) 2 a) i (h, p, d, st, ow, qj_up sl k a) := by
  obtain ⟨e1, e2, e3, e4, e5⟩ := hC
  refine ⟨e1, e2, e3, e4, fun j hj => ?_⟩
  show (qp_up x 16 (6 * i + k) 2 a) 16 (6 * i + j) 2 = if j = k then a else sl j
  by_cases e : j = k
  · subst e; rw [if_pos rfl]; exact qu_ps
  · rw [if_neg e, qu_pi (by omega)]; exact e5 j hj
theorem qw_Cs {x : qp_S} {i h p : Nat} {d : Bool} {st st' ow sl : Nat → Int32} (hC : qj_C x i (h, p, d, st, ow, sl)) (hs : ∀ j, j < h → st j = st' j) : qj_C x i (h, p, d, st', ow, sl) := by
  obtain ⟨e1, e2, e3, e4, e5⟩ := hC
  exact ⟨e1, e2, fun j hj => (e3 j hj).trans (hs j hj), e4, e5⟩
theorem qw_mk {v : Int32} {i : Nat} {x : qp_S} {J : qj} {f : Option (Int32 × qp_S)} {x' : qp_S} (hC : qj_C x' i J) (hF : qw_F v i x x') (hf : f = some (0, x')) : ∃ x' b, f = some (b, x') ∧ qj_C x' i J ∧ qw_F v i x x' := ⟨x', 0, hf, hC, hF⟩
theorem qw_96 {v : Int32} {i h p : Nat} {d : Bool} {st ow sl : Nat → Int32} {x : qp_S} (hC : qj_C x i (h, p + 1, d, st, ow, sl))
    (hw : qj_w v ≤ 16) (ht : qj_tk (qj_w v) ≤ h) (hh : h ≤ 8) (hh' : qk_h (qj_w v) h ≤ 8) {size : Nat} (hs : size ≤ 32) (hn : qk_n (qj_w v) (qj_n v) size) : ∃ x' b, qf96 i v x = some (b, x') ∧ qj_C x' i (qj_st v (h, p, d, st, ow, sl)) ∧ qw_F v i x x' := by
  have l0 : (0:Int32).toInt = 0 := rfl; have l1 : (1:Int32).toInt = 1 := rfl; have lm : (-1:Int32).toInt = -1 := rfl; have l3 : (3:Int32).toInt = 3 := rfl; have l4 : (4:Int32).toInt = 4 := rfl; have l5 : (5:Int32).toInt = 5 := rfl; have l6 : (6:Int32).toInt = 6 := rfl; have l7 : (7:Int32).toInt = 7 := rfl; have l8 : (8:Int32).toInt = 8 := rfl; have l15 : (15:Int32).toInt = 15 := rfl; have l16 : (16:Int32).toInt = 16 := rfl; have l32 : (32:Int32).toInt = 32 := rfl
  obtain ⟨ew, -⟩ := qw_w v
  have en : ∀ s, qf59 v s = some (qj_n v) := fun s => rfl
  have ew2 : ∀ s, qf58 v s = some (Int32.ofNat (qj_w v)) := fun s => by rw [← ew]; rfl
  unfold qf96
  rw [en, Option.bind_some, ew2]
  simp only [Option.bind_some]
  obtain ⟨n1, n2, n3, n4⟩ := hn
  have hwc : qj_w v = 0 ∨ qj_w v = 1 ∨ qj_w v = 2 ∨ qj_w v = 3 ∨ (4 ≤ qj_w v ∧ qj_w v ≤ 9) ∨ qj_w v = 10 ∨ qj_w v = 11 ∨ qj_w v = 12 ∨ qj_w v = 13 ∨ qj_w v = 14 ∨ qj_w v = 15 ∨ qj_w v = 16 := by omega
  rcases hwc with e | e | e | e | e | e | e | e | e | e | e | e
  · refine ⟨x, 0, by rw [e]; rfl, ?_, qw_Fr⟩
    simp only [qj_st, e]
    exact hC
  · rw [e] at hh'
    have hh2 : h + 1 ≤ 8 := hh'
    apply qw_mk
    · simp only [qj_st, e]
      exact qw_Cpush (a := qj_n v) hC
    · exact qw_Fu (by omega) (qw_Fu (by omega) qw_Fr)
    · rw [e]
      show ((qf97 i (qj_n v) x).bind fun q5 => some (0, q5.2)) = _
      rw [qw_push hC.1 (by omega)]; rfl
  · rw [e] at hh'
    have hh2 : h + 1 ≤ 8 := hh'
    obtain ⟨k, hk, ek⟩ := qv_ex (a := qj_n v) (N := 6) (n1 (Or.inl e)).1 (n1 (Or.inl e)).2
    have tk := qv_tI k (by omega)
    apply qw_mk
    · simp only [qj_st, e]
      exact qw_Cpush (a := sl (qN (qj_n v))) hC
    · exact qw_Fu (by omega) (qw_Fu (by omega) qw_Fr)
    · rw [e, ek]
      show ((qf13 (Int32.ofNat k) (6 : Int32) x).bind fun q6 => (bif qm_cmp .eq q6 (0 : Int32) then qf96_132 i (0 : Int32) x else (if qm_inb (Int32.ofNat k) 6 = true then qf96_132 i (x 16 (6 * i + (Int32.ofNat k).toNatClampNeg) 2) x else none))) = _
      simp (disch := first | omega | assumption | decide) only [qu_ltT, qu_ltF, qu_gtT, qu_gtF, qu_geT, qu_geF, qu_leT, qu_leF, qu_eqT, qu_eqF, qu_neT, qu_neF, qu_inT, qu_24T, qu_24F, qu_116T, qu_116F, qu_13T, qu_13F, qu_25T, qu_25F, qu_26T, qu_26F, qu_117a, qu_117b, qu_117c, qu_117d, qu_10F, qu_00T, qu_n10, qu_n00, Option.bind_some, cond_true, cond_false, if_true, qv_tN, qv_c6, qv_c4, qv_c8, qv_c32, qv_d4, qv_d16, qv_f4, qv_a1, qv_a2, qv_a3, qv_add, qv_inT, qf96_132]
      rw [hC.2.2.2.2 k hk]
      rw [qw_push hC.1 (by omega)]; rfl
  · obtain ⟨h, rfl⟩ : ∃ z, h = z + 1 := ⟨h - 1, by rw [e] at ht; have : 1 ≤ h := ht; omega⟩
    obtain ⟨k, hk, ek⟩ := qv_ex (a := qj_n v) (N := 6) (n1 (Or.inr e)).1 (n1 (Or.inr e)).2
    have tk := qv_tI k (by omega)
    have eN : qN (qj_n v) = k := by rw [ek]; exact qv_tN k (by omega)
    apply qw_mk
    · simp only [qj_st, e]
      exact qw_Csl (a := st h) (qw_Cpop hC)
    · exact qw_Fs e (qw_Fu (by omega) qw_Fr)
    · rw [e, eN, ek]
      show ((qf98 i x).bind fun q7 => ((qf99 i (Int32.ofNat k) (q7.1) q7.2).bind fun q8 => some (0, q8.2))) = _
      rw [qw_pop hC.1 (by omega), hC.2.2.1 h (Nat.lt_succ_self h)]
      simp (disch := first | omega | assumption | decide) only [qu_ltT, qu_ltF, qu_gtT, qu_gtF, qu_geT, qu_geF, qu_leT, qu_leF, qu_eqT, qu_eqF, qu_neT, qu_neF, qu_inT, qu_24T, qu_24F, qu_116T, qu_116F, qu_13T, qu_13F, qu_25T, qu_25F, qu_26T, qu_26F, qu_117a, qu_117b, qu_117c, qu_117d, qu_10F, qu_00T, qu_n10, qu_n00, Option.bind_some, cond_true, cond_false, if_true, qv_tN, qv_c6, qv_c4, qv_c8, qv_c32, qv_d4, qv_d16, qv_f4, qv_a1, qv_a2, qv_a3, qv_add, qv_inT, qf99]
      rfl
  · obtain ⟨h, rfl⟩ : ∃ z, h = z + 2 := ⟨h - 2, by
      have : qj_tk (qj_w v) = 2 := by unfold qj_tk; rw [if_neg (by omega), if_pos (Or.inl e)]
      omega⟩
    apply qw_mk
    · have : qj_st v (h + 2, p, d, st, ow, sl) = (h + 1, p + 1, d, qj_up st h (qj_rk (qj_w v) (st h) (st (h + 1))), ow, sl) := by
        simp only [qj_st]
        rw [if_neg (by omega), if_neg (by omega), if_neg (by omega), if_neg (by omega), if_pos (by omega)]
        rfl
      rw [this]
      exact qw_Cpush (a := qj_rk (qj_w v) (st h) (st (h + 1))) (qw_Cpop (qw_Cpop hC))
    · exact qw_Fu (by omega) (qw_Fu (by omega) (qw_Fu (by omega) (qw_Fu (by omega) qw_Fr)))
    · have hq : ∀ w, 4 ≤ w ∧ w ≤ 9 → qf102 i (Int32.ofNat w) x = some (0, qp_up (qp_up (qp_up (qp_up x 19 i 1 (Int32.ofNat (h + 1))) 19 i 1 (Int32.ofNat h)) 20 i h (qj_rk w (st h) (st (h + 1)))) 19 i 1 (Int32.ofNat (h + 1))) := by
        intro w hw
        unfold qf102
        rw [qw_pop hC.1 (by omega), Option.bind_some, qw_pop (h := h) (qw_Cpop hC).1 (by omega), Option.bind_some]
        rw [qw_rk hw, Option.bind_some, qw_push (qw_Cpop (qw_Cpop hC)).1 (by omega)]
        rw [hC.2.2.1 (h + 1) (Nat.lt_succ_self _), (qw_Cpop hC).2.2.1 h (Nat.lt_succ_self _)]
        rfl
      have hq' := hq (qj_w v) e
      have : qj_w v = 4 ∨ qj_w v = 5 ∨ qj_w v = 6 ∨ qj_w v = 7 ∨ qj_w v = 8 ∨ qj_w v = 9 := by omega
      rcases this with e | e | e | e | e | e <;> rw [e] at hq' ⊢ <;> exact Option.bind_eq_some_iff.mpr ⟨_, hq', rfl⟩
  · have hn2 := n2 (Or.inl e)
    obtain ⟨k, hk, ek⟩ := qv_ex (a := qj_n v) (N := size) hn2.1 hn2.2
    have eN : qN (qj_n v) = k := by rw [ek]; exact qv_tN k (by omega)
    apply qw_mk
    · simp only [qj_st, e]
      exact qw_Cp hC
    · exact qw_Fn qw_Fr
    · rw [e, eN, ek]; rfl
  · obtain ⟨h, rfl⟩ : ∃ z, h = z + 1 := ⟨h - 1, by rw [e] at ht; have : 1 ≤ h := ht; omega⟩
    have hn2 := n2 (Or.inr e)
    obtain ⟨k, hk, ek⟩ := qv_ex (a := qj_n v) (N := size) hn2.1 hn2.2
    have eN : qN (qj_n v) = k := by rw [ek]; exact qv_tN k (by omega)
    apply qw_mk
    · simp only [qj_st, e]
      exact qw_Cp (q := if st h = 0 then qN (qj_n v) else p + 1) (qw_Cpop hC)
    · exact qw_Fn (qw_Fu (by omega) qw_Fr)
    · rw [e, eN, ek]
      show ((qf98 i x).bind fun q21 => (bif qm_cmp .ne (q21.1) (0 : Int32) then some ((0 : Int32), (qp_up q21.2 14 i 10 (q21.2 14 i 10))) else some (0, (qp_up q21.2 14 i 10 (Int32.ofNat k))))) = _
      rw [qw_pop hC.1 (by omega), hC.2.2.1 h (Nat.lt_succ_self h), Option.bind_some]
      show (bif qm_cmp .ne (st h) (0 : Int32) then some ((0 : Int32), (qp_up (qp_up x 19 i 1 (Int32.ofNat h)) 14 i 10 (x 14 i 10))) else some (0, (qp_up (qp_up x 19 i 1 (Int32.ofNat h)) 14 i 10 (Int32.ofNat k)))) = _
      rw [qv_ne]
      by_cases hz : st h = 0
      · rw [decide_eq_false (fun g => g hz), if_pos hz]; rfl
      · rw [decide_eq_true hz, if_neg hz, hC.2.1]; rfl
  · obtain ⟨h, rfl⟩ : ∃ z, h = z + 1 := ⟨h - 1, by rw [e] at ht; have : 1 ≤ h := ht; omega⟩
    rw [e] at hh'
    have hh2 : h + 2 ≤ 8 := hh'
    apply qw_mk
    · simp only [qj_st, e]
      exact qw_Cpush (a := st h) hC
    · exact qw_Fu (by omega) (qw_Fu (by omega) qw_Fr)
    · rw [e]
      show ((qf19 i x).bind fun q22 => ((qf97 i q22 x).bind fun q23 => some ((0 : Int32), q23.2))) = _
      rw [qw_top hC.1 (by omega), Option.bind_some, hC.2.2.1 h (Nat.lt_succ_self h), qw_push hC.1 (by omega)]; rfl
  · obtain ⟨h, rfl⟩ : ∃ z, h = z + 2 := ⟨h - 2, by rw [e] at ht; have : 2 ≤ h := ht; omega⟩
    have c1 := qw_Cpop hC
    have c2 := qw_Cpop c1
    have c3 := qw_Cpush (a := st (h + 1)) c2
    have c4 := qw_Cpush (a := st h) c3
    apply qw_mk
    · simp only [qj_st, e]
      exact c4
    · exact qw_Fu (by omega) (qw_Fu (by omega) (qw_Fu (by omega) (qw_Fu (by omega) (qw_Fu (by omega) (qw_Fu (by omega) qw_Fr)))))
    · rw [e]
      show ((qf100 i x).bind fun q24 => some ((0 : Int32), q24.2)) = _
      unfold qf100
      rw [qw_pop hC.1 (by omega), Option.bind_some, qw_pop (h := h) c1.1 (by omega), Option.bind_some]
      rw [hC.2.2.1 (h + 1) (Nat.lt_succ_self _), c1.2.2.1 h (Nat.lt_succ_self _)]
      rw [qw_push c2.1 (by omega), Option.bind_some, qw_push c3.1 (by omega)]
      rfl
  · obtain ⟨h, rfl⟩ : ∃ z, h = z + 1 := ⟨h - 1, by rw [e] at ht; have : 1 ≤ h := ht; omega⟩
    apply qw_mk
    · simp only [qj_st, e]
      exact qw_Cpop hC
    · exact qw_Fu (by omega) qw_Fr
    · rw [e]
      show ((qf98 i x).bind fun q25 => some ((0 : Int32), q25.2)) = _
      rw [qw_pop hC.1 (by omega)]; rfl
  · rw [e] at hh'
    have hh2 : h + 1 ≤ 8 := hh'
    obtain ⟨k, hk, ek⟩ := qv_ex (a := qj_n v) (N := 4) (n3 (Or.inl e)).1 (n3 (Or.inl e)).2
    have tk := qv_tI k (by omega)
    apply qw_mk
    · simp only [qj_st, e]
      exact qw_Cpush (a := ow (qN (qj_n v))) hC
    · exact qw_Fu (by omega) (qw_Fu (by omega) qw_Fr)
    · rw [e, ek]
      show ((qf13 (Int32.ofNat k) (4 : Int32) x).bind fun q26 => (bif qm_cmp .eq q26 (0 : Int32) then qf96_243 i (0 : Int32) x else (if qm_inb (Int32.ofNat k) 4 = true then qf96_243 i (x 18 i (Int32.ofNat k).toNatClampNeg) x else none))) = _
      simp (disch := first | omega | assumption | decide) only [qu_ltT, qu_ltF, qu_gtT, qu_gtF, qu_geT, qu_geF, qu_leT, qu_leF, qu_eqT, qu_eqF, qu_neT, qu_neF, qu_inT, qu_24T, qu_24F, qu_116T, qu_116F, qu_13T, qu_13F, qu_25T, qu_25F, qu_26T, qu_26F, qu_117a, qu_117b, qu_117c, qu_117d, qu_10F, qu_00T, qu_n10, qu_n00, Option.bind_some, cond_true, cond_false, if_true, qv_tN, qv_c6, qv_c4, qv_c8, qv_c32, qv_d4, qv_d16, qv_f4, qv_a1, qv_a2, qv_a3, qv_add, qv_inT, qf96_243]
      rw [hC.2.2.2.1 k hk]
      rw [qw_push hC.1 (by omega)]; rfl
  · obtain ⟨h, rfl⟩ : ∃ z, h = z + 1 := ⟨h - 1, by rw [e] at ht; have : 1 ≤ h := ht; omega⟩
    obtain ⟨k, hk, ek⟩ := qv_ex (a := qj_n v) (N := 4) (n3 (Or.inr e)).1 (n3 (Or.inr e)).2
    have tk := qv_tI k (by omega)
    have eN : qN (qj_n v) = k := by rw [ek]; exact qv_tN k (by omega)
    apply qw_mk
    · simp only [qj_st, e]
      exact qw_Cow (a := st h) (qw_Cpop hC)
    · exact qw_Fu (by omega) (qw_Fu (by omega) qw_Fr)
    · rw [e, eN, ek]
      show ((qf98 i x).bind fun q27 => ((qf101 i (Int32.ofNat k) (q27.1) q27.2).bind fun q28 => some ((0 : Int32), q28.2))) = _
      rw [qw_pop hC.1 (by omega), hC.2.2.1 h (Nat.lt_succ_self h)]
      simp (disch := first | omega | assumption | decide) only [qu_ltT, qu_ltF, qu_gtT, qu_gtF, qu_geT, qu_geF, qu_leT, qu_leF, qu_eqT, qu_eqF, qu_neT, qu_neF, qu_inT, qu_24T, qu_24F, qu_116T, qu_116F, qu_13T, qu_13F, qu_25T, qu_25F, qu_26T, qu_26F, qu_117a, qu_117b, qu_117c, qu_117d, qu_10F, qu_00T, qu_n10, qu_n00, Option.bind_some, cond_true, cond_false, if_true, qv_tN, qv_c6, qv_c4, qv_c8, qv_c32, qv_d4, qv_d16, qv_f4, qv_a1, qv_a2, qv_a3, qv_add, qv_inT, qf101]
      rfl
