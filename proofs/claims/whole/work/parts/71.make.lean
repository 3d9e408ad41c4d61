/-! makings with loops: a mode, a task -/
def qc_b (n : Nat → Nat) (k m : Nat) : Nat → Nat := fun a => if a = k then n k + m else n a
theorem qc_b0 (n : Nat → Nat) (k : Nat) : qc_b n k 0 = n := by
  funext a
  unfold qc_b
  split
  · rename_i e; rw [e]; rfl
  · rfl
theorem qc_bs (n : Nat → Nat) (k t : Nat) : qp_bump (qc_b n k t) k = qc_b n k (t + 1) := by
  funext a
  unfold qp_bump qc_b
  by_cases h : a = k
  · rw [if_pos h, if_pos rfl, if_pos h]; omega
  · rw [if_neg h, if_neg h, if_neg h]
theorem qi_ge {t m : Nat} (ht : t < 2147483648) (hm : m < 2147483648) : qm_cmp .ge (Int32.ofNat t) (Int32.ofNat m) = decide (m ≤ t) := by
  unfold qm_cmp
  dsimp only
  apply decide_eq_decide.mpr
  rw [Int32.le_iff_toInt_le, qi_of ht, qi_of hm]
  omega
section QC2
variable {ro : Nat → Nat × (Nat → Int32)} {d m pc pc' : Nat} {lv lv' : qm_L} {st st' : List qm_V} {h h' : qm_H} {c c' : qm_C} {s : qp_S} {n : Nat → Nat} {P : Nat → Nat → Nat → Prop} {F : qm_O → qm_H → qm_C → Prop} {b : Bool} {t f : Nat}
theorem qc_t (hb : b = true) (hs : qm_stp ro d m pc lv st h c = some (.inr (.inl (bif b then t else f, lv', st', h', c')))) (k : qc_W ro d m F (t, lv', st', h', c')) : qc_W ro d m F (pc, lv, st, h, c) := by
  subst hb
  exact qc_next hs k
theorem qc_f (hb : b = false) (hs : qm_stp ro d m pc lv st h c = some (.inr (.inl (bif b then t else f, lv', st', h', c')))) (k : qc_W ro d m F (f, lv', st', h', c')) : qc_W ro d m F (pc, lv, st, h, c) := by
  subst hb
  exact qc_next hs k
theorem qc_aast {k i kv iv t : Nat} (hP : qc_P n s P h) (hin : t < qk_len (k + 1)) (ht : qt_thr m pc = none) (hcd : qt_code m pc = some (.aastore, 1)) (hk : qk_tag (k + 1) = 4) (hk2 : qk_tag (kv + 1) = 0) (hk3 : qk_cls (kv + 1) = qk_cls (k + 1)) (hp : qt_pure m = false) (hv : qp_c s 0 (k + 1) i t = vR (kv + 1) iv)
    (kk : ∀ h1, qc_P n s (fun a b c => P a b c ∧ ¬ (a = k + 1 ∧ b = i ∧ c = t)) h1 → qc_W ro d m F (pc + 1, lv, st, h1, c)) : qc_W ro d m F (pc, lv, vR (kv + 1) iv :: vI (Int32.ofNat t) :: vR (k + 1) i :: st, h, c) := by
  have hl : qk_len (k + 1) < 65536 := qo_len (k + 1)
  have e : (Int32.ofNat t).toNatClampNeg = t := Int32.toNatClampNeg_ofNat_of_lt (by omega)
  have hi : qm_inb (Int32.ofNat t) (qk_len (k + 1)) = true := by
    unfold qm_inb
    rw [qi_of (by omega)]
    simp
    omega
  refine qc_next (y := (pc + 1, lv, st, qm_put h (k + 1) i t (vR (kv + 1) iv), c)) ?_ (kk _ (hP.putR hv))
  unfold qm_stp
  rw [ht, hcd]
  dsimp only
  have e2 : qm_1 ro m .aastore 1 pc lv (vR (kv + 1) iv :: vI (Int32.ofNat t) :: vR (k + 1) i :: st) h c = (if qk_tag (k + 1) = 4 ∧ qm_inb (Int32.ofNat t) (qk_len (k + 1)) = true ∧ qk_tag (kv + 1) = 0 ∧ qk_cls (kv + 1) = qk_cls (k + 1) ∧ qt_pure m = false then qm_go (pc + 1) lv st (qm_put h (k + 1) i (Int32.ofNat t).toNatClampNeg (vR (kv + 1) iv)) c else none) := rfl
  rw [e2, if_pos ⟨hk, hi, hk2, hk3, hp⟩, e]
  rfl
end QC2
/-- a mode's guards -/
theorem qc8_22 {ro : Nat → Nat × (Nat → Int32)} (d i : Nat) {n : Nat → Nat} {s : qp_S} {P : Nat → Nat → Nat → Prop} (hnP : ¬ P 22 i 3) (hn : n 25 = 4 * i) : ∀ (r t : Nat) (h : qm_H) (k1 k2 : Nat), r + t = 4 → qc_P (qc_b n 25 t) s (fun a b c => P a b c ∨ (a = 24 ∧ b = i ∧ t ≤ c ∧ c < 4)) h →
    qc_W ro (d + 2) 8 (fun o h1 c1 => o = .inl none ∧ c1 = (k1 + r, k2 + 4 * r) ∧ qc_P (qc_b n 25 4) s P h1) (22, [some (vR 22 i), some (vI (Int32.ofNat t))], [], h, (k1, k2)) := by
  intro r
  induction r with
  | zero =>
    intro t h k1 k2 hrt hP
    obtain rfl : t = 4 := by omega
    iterate 2 refine qc_next rfl ?_
    refine qc_t (b := qm_cmp .ge (Int32.ofNat 4) (Int32.ofNat 4)) (by rw [qi_ge (by omega) (by omega)]; decide) rfl ?_
    exact qc_done rfl ⟨rfl, rfl, hP.weak fun a b c hq => hq.elim id fun hz => absurd hz.2.2 (by omega)⟩
  | succ r ih =>
    intro t h k1 k2 hrt hP
    iterate 2 refine qc_next rfl ?_
    refine qc_f (b := qm_cmp .ge (Int32.ofNat t) (Int32.ofNat 4)) (by rw [qi_ge (by omega) (by omega)]; exact decide_eq_false (by omega)) rfl ?_
    refine qc_next rfl ?_
    refine qc_get (k := 22) (i := i) (j := 3) (v := vR 24 i) hP rfl (fun hq => hq.elim hnP (fun hz => absurd hz.1 (by decide))) rfl ?_
    refine qc_next rfl ?_
    refine qc_newI (k := 25) (i := 4 * i + t) hP rfl (by unfold qc_b; rw [if_pos rfl, hn]) (by decide) fun h1 hP1 => ?_
    refine qc_next rfl ?_
    refine qc_call rfl (qc9 (d + 0) (4 * i + t) hP1) (fun o h1 c1 hG => hG.1) fun h2 c2 hG => ?_
    obtain ⟨-, rfl, hP2⟩ := hG
    refine qc_aast (k := 23) (i := i) (t := t) hP2 (show t < 4 by omega) rfl rfl rfl rfl rfl rfl rfl fun h3 hP3 => ?_
    iterate 2 refine qc_next rfl ?_
    have e1 : Int32.ofNat t + 1 = Int32.ofNat (t + 1) := qi_add t 1
    rw [qc_bs] at hP3
    have hJ := ih (t + 1) h3 (k1 + 1) (k2 + 4) (by omega) (hP3.weak fun a b c hq => by
      rcases hq with ⟨q1 | q1, q2⟩
      · exact Or.inl q1
      · refine Or.inr ⟨q1.1, q1.2.1, ?_, q1.2.2.2⟩
        rcases Nat.eq_or_lt_of_le q1.2.2.1 with e | e
        · exact absurd ⟨q1.1, q1.2.1, e.symm⟩ q2
        · exact e)
    rw [← e1] at hJ
    obtain ⟨o, h4, c4, g1, g2, g3, g4⟩ := hJ
    exact ⟨o, h4, c4, g1, g2, by rw [g3, Nat.add_assoc, Nat.add_comm 1 r]; congr 1; omega, g4⟩
