/-! heights: what both looks at a code keep -/
def qk_c (D : Nat → Int32) : Nat → Nat
  | 0 => 0
  | m + 1 => qk_c D m + (if D m = -1 then 0 else 1)
theorem qk_cle (D : Nat → Int32) : ∀ m, qk_c D m ≤ m := by
  intro m
  induction m with
  | zero => exact Nat.le_refl _
  | succ m ih =>
    unfold qk_c
    by_cases e : D m = -1
    · rw [if_pos e]; omega
    · rw [if_neg e]; omega
theorem qk_cup {D : Nat → Int32} {p : Nat} {a : Int32} (hp : D p = -1) (ha : a ≠ -1) : ∀ m, qk_c (qj_up D p a) m = qk_c D m + (if p < m then 1 else 0) := by
  intro m
  induction m with
  | zero => rfl
  | succ m ih =>
    show qk_c (qj_up D p a) m + (if (if m = p then a else D m) = -1 then 0 else 1) = qk_c D m + (if D m = -1 then 0 else 1) + (if p < m + 1 then 1 else 0)
    rw [ih]
    by_cases e : m = p
    · subst e
      rw [if_pos rfl, if_neg ha, if_pos hp, if_neg (Nat.lt_irrefl m), if_pos (Nat.lt_succ_self m)]
    · rw [if_neg e]
      by_cases g : p < m
      · rw [if_pos g, if_pos (show p < m + 1 by omega)]; omega
      · rw [if_neg g, if_neg (show ¬ p < m + 1 by omega)]; omega
theorem qk_cmono {D D' : Nat → Int32} : ∀ m, (∀ p, p < m → D p ≠ -1 → D' p ≠ -1) → qk_c D m ≤ qk_c D' m := by
  intro m
  induction m with
  | zero => intro _; exact Nat.le_refl _
  | succ m ih =>
    intro h
    unfold qk_c
    have := ih (fun p hp => h p (by omega))
    by_cases e : D m = -1
    · rw [if_pos e]; omega
    · rw [if_neg e, if_neg (h m (by omega) e)]; omega
theorem qk_cext {D D' : Nat → Int32} : ∀ m, (∀ p, p < m → D p = D' p) → qk_c D m = qk_c D' m := by
  intro m
  induction m with
  | zero => intro _; rfl
  | succ m ih =>
    intro h
    unfold qk_c
    rw [ih (fun p hp => h p (by omega)), h m (by omega)]
/-- what is put down so far is right, and every good row of heights has it -/
def qk_I (v : Nat → Int32) (size : Nat) (D : Nat → Int32) : Prop := D 0 = 0 ∧ (∀ p, p < 32 → D p = -1 ∨ (p < size ∧ ∃ h, h ≤ 8 ∧ D p = Int32.ofNat h)) ∧ ∀ D', qk_V v size D' → ∀ p, p < 32 → D p ≠ -1 → D' p = D p
theorem qj_upd {D : Nat → Int32} {p : Nat} {a : Int32} (h : D p = a) : qj_up D p a = D := by
  funext j
  unfold qj_up
  by_cases e : j = p
  · subst e; rw [if_pos rfl, h]
  · rw [if_neg e]
theorem qk_put {v : Nat → Int32} {size : Nat} {D : Nat → Int32} (hI : qk_I v size D) {p h : Nat} (hp : p < size) (hs : size ≤ 32) (hh : h ≤ 8) (hD : D p = -1 ∨ D p = Int32.ofNat h) (hf : ∀ D', qk_V v size D' → D' p = Int32.ofNat h) : qk_I v size (qj_up D p (Int32.ofNat h)) ∧ (qj_up D p (Int32.ofNat h) = D ∨ qk_c D 32 < qk_c (qj_up D p (Int32.ofNat h)) 32) ∧ (∀ q, D q ≠ -1 → qj_up D p (Int32.ofNat h) q = D q) := by
  rcases hD with hD | hD
  · obtain ⟨i1, i2, i3⟩ := hI
    have hne : ∀ q, D q ≠ -1 → qj_up D p (Int32.ofNat h) q = D q := by
      intro q hq
      have : q ≠ p := fun e => hq (by rw [e]; exact hD)
      unfold qj_up; rw [if_neg this]
    refine ⟨⟨?_, fun q hq => ?_, fun D' hV q hq g => ?_⟩, Or.inr ?_, hne⟩
    · rw [hne 0 (by rw [i1]; decide)]; exact i1
    · unfold qj_up
      by_cases e : q = p
      · subst e; rw [if_pos rfl]; exact Or.inr ⟨hp, h, hh, rfl⟩
      · rw [if_neg e]; exact i2 q hq
    · unfold qj_up at g ⊢
      by_cases e : q = p
      · subst e; rw [if_pos rfl]; exact hf D' hV
      · rw [if_neg e] at g ⊢; exact i3 D' hV q hq g
    · rw [qk_cup hD (qv_mm h (by omega)), if_pos (by omega)]; omega
  · rw [qj_upd hD]
    exact ⟨hI, Or.inl rfl, fun _ _ => rfl⟩
/-- what a good row of heights says of a word that has one -/
theorem qk_say {v : Nat → Int32} {size : Nat} {D D' : Nat → Int32} (hI : qk_I v size D) (hs : size ≤ 32) (hV : qk_V v size D') {p h : Nat} (hp : p < 32) (hh : h ≤ 8) (e : D p = Int32.ofNat h) : qk_ok (v p) size D' p h := by
  have e2 := hI.2.2 D' hV p hp (by rw [e]; exact qv_mm h (by omega))
  rw [e] at e2
  have hp2 : p < size := by
    rcases hV.2.2 p hp with g | g
    · rw [e2] at g; exact absurd g (qv_mm h (by omega))
    · exact g.1
  exact qy_ok hV hs hp2 hh e2
/-- all that is put down is done: a good row, and the least -/
theorem qk_done {v : Nat → Int32} {size : Nat} {D : Nat → Int32} (hI : qk_I v size D) (h0 : 0 < size) (hc : ∀ p h, p < size → h ≤ 8 → D p = Int32.ofNat h → qk_ok (v p) size D p h) : qk_V v size D := by
  refine ⟨h0, hI.1, fun p hp => ?_⟩
  rcases hI.2.1 p hp with g | ⟨g, h, hh, e⟩
  · exact Or.inl g
  · exact Or.inr ⟨g, h, hh, e, hc p h g hh e⟩
/-- two least rows are one -/
theorem qk_one {v : Nat → Int32} {size : Nat} {D D' : Nat → Int32} (h1 : qk_I v size D) (v1 : qk_V v size D) (h2 : qk_I v size D') (v2 : qk_V v size D') : ∀ p, p < 32 → D p = D' p := by
  intro p hp
  by_cases e : D p = -1
  · by_cases e' : D' p = -1
    · rw [e, e']
    · exact h2.2.2 D v1 p hp e'
  · exact (h1.2.2 D' v2 p hp e).symm
