/-! rows of ints that are filled -/
def qc_v (s : qp_S) (k i t : Nat) (v : Int32) : qp_S := fun a b c => if a = k ∧ b = i ∧ c < t then v else s a b c
theorem qc_v0 (s : qp_S) (k i : Nat) (v : Int32) : qc_v s k i 0 v = s := by
  funext a b c
  unfold qc_v
  rw [if_neg]
  omega
theorem qc_vs (s : qp_S) (k i t : Nat) (v : Int32) : qp_up (qc_v s k i t v) k i t v = qc_v s k i (t + 1) v := by
  funext a b c
  unfold qp_up qc_v
  by_cases h1 : a = k ∧ b = i ∧ c = t
  · rw [if_pos h1, if_pos (by omega)]
  · rw [if_neg h1]
    by_cases h2 : a = k ∧ b = i ∧ c < t
    · rw [if_pos h2, if_pos (by omega)]
    · rw [if_neg h2, if_neg]
      intro h3
      exact h1 (by omega)
section QC3
variable {ro : Nat → Nat × (Nat → Int32)} {d m pc : Nat} {lv : qm_L} {st : List qm_V} {h : qm_H} {c : qm_C} {s : qp_S} {n : Nat → Nat} {P : Nat → Nat → Nat → Prop} {F : qm_O → qm_H → qm_C → Prop}
theorem qc_ist {k i t : Nat} {v : Int32} (hP : qc_P n s P h) (hin : t < qk_len (k + 1)) (hi : i < n (k + 1)) (ht : qt_thr m pc = none) (hcd : qt_code m pc = some (.iastore, 1)) (hk : qk_tag (k + 1) = 1) (hp : qt_pure m = false) (hd : qk_dt (k + 1) t = 0)
    (kk : ∀ h1, qc_P n (qp_up s (k + 1) i t v) P h1 → qc_W ro d m F (pc + 1, lv, st, h1, c)) : qc_W ro d m F (pc, lv, vI v :: vI (Int32.ofNat t) :: vR (k + 1) i :: st, h, c) := by
  have hl : qk_len (k + 1) < 65536 := qo_len (k + 1)
  have e : (Int32.ofNat t).toNatClampNeg = t := Int32.toNatClampNeg_ofNat_of_lt (by omega)
  have hj : qm_inb (Int32.ofNat t) (qk_len (k + 1)) = true := by
    unfold qm_inb
    rw [qi_of (by omega)]
    simp
    omega
  refine qc_next (y := (pc + 1, lv, st, qm_put h (k + 1) i t (vI v), c)) ?_ (kk _ (hP.putI hd hi))
  unfold qm_stp
  rw [ht, hcd]
  dsimp only
  have e2 : qm_1 ro m .iastore 1 pc lv (vI v :: vI (Int32.ofNat t) :: vR (k + 1) i :: st) h c = (if qk_tag (k + 1) = 1 ∧ qm_inb (Int32.ofNat t) (qk_len (k + 1)) = true ∧ qt_pure m = false then qm_go (pc + 1) lv st (qm_put h (k + 1) i (Int32.ofNat t).toNatClampNeg (vI v)) c else none) := rfl
  rw [e2, if_pos ⟨hk, hj, hp⟩, e]
  rfl
end QC3
theorem qc11_5 {ro : Nat → Nat × (Nat → Int32)} (d : Nat) {n : Nat → Nat} {s : qp_S} {P : Nat → Nat → Nat → Prop} (hi : 0 < n 5) : ∀ (r t : Nat) (h : qm_H), r + t = 8 → qc_P n (qc_v s 5 0 t (-1)) P h →
    qc_W ro d 11 (fun o h1 c1 => o = .inl none ∧ c1 = (0, 0) ∧ qc_P n (qc_v s 5 0 8 (-1)) P h1) (5, [some (vR 5 0), some (vI (-1)), some (vI (Int32.ofNat t)), some (vI (Int32.ofNat 8))], [], h, (0, 0)) := by
  intro r
  induction r with
  | zero =>
    intro t h hrt hP
    obtain rfl : t = 8 := by omega
    iterate 2 refine qc_next rfl ?_
    refine qc_t (b := qm_cmp .ge (Int32.ofNat 8) (Int32.ofNat 8)) (by rw [qi_ge (by omega) (by omega)]; decide) rfl ?_
    exact qc_done rfl ⟨rfl, rfl, hP⟩
  | succ r ih =>
    intro t h hrt hP
    iterate 2 refine qc_next rfl ?_
    refine qc_f (b := qm_cmp .ge (Int32.ofNat t) (Int32.ofNat 8)) (by rw [qi_ge (by omega) (by omega)]; exact decide_eq_false (by omega)) rfl ?_
    iterate 3 refine qc_next rfl ?_
    refine qc_ist (k := 4) (i := 0) (t := t) hP (show t < 8 by omega) hi rfl rfl rfl rfl rfl fun h1 hP1 => ?_
    iterate 2 refine qc_next rfl ?_
    have e1 : Int32.ofNat t + 1 = Int32.ofNat (t + 1) := qi_add t 1
    rw [qc_vs] at hP1
    have hJ := ih (t + 1) h1 (by omega) hP1
    rw [← e1] at hJ
    exact hJ
theorem qc11 {ro : Nat → Nat × (Nat → Int32)} (d : Nat) {n : Nat → Nat} {s : qp_S} {P : Nat → Nat → Nat → Prop} {h : qm_H} (hi : 0 < n 5) (hP : qc_P n s P h) : qc_W ro d 11 (fun o h1 c1 => o = .inl none ∧ c1 = (0, 0) ∧ qc_P n (qc_v s 5 0 8 (-1)) P h1) (0, qm_ent 11 [vR 5 0, vI (-1)], [], h, (0, 0)) := by
  iterate 5 refine qc_next rfl ?_
  exact qc11_5 d hi 8 0 h rfl (by rw [qc_v0]; exact hP)
