/-! the small machine is sound -/
theorem qo_relP {o : Nat} : ∀ (rs ks : List (Nat × Nat × Nat × Nat)), qo_relB o rs ks = true → qs_rel (qt_cn o) (fun w => w ∈ qw) rs ks := by
  intro rs
  induction rs with
  | nil => intro ks h; cases ks with
    | nil => trivial
    | cons q r => cases h
  | cons q rs ih => intro ks h; cases ks with
    | nil => cases h
    | cons q' r =>
      obtain ⟨a, b, tt, ct⟩ := q
      obtain ⟨a', b', t', j⟩ := q'
      unfold qo_relB at h
      simp only [Bool.and_eq_true, decide_eq_true_eq] at h
      obtain ⟨⟨⟨⟨⟨⟨⟨c1, c2⟩, c3⟩, c4⟩, c5⟩, c6⟩, c7⟩, c8⟩ := h
      exact ⟨c1, c2, c3, c4, c5, c6, qo_in c7 rfl, ih r c8⟩
theorem qo_ylt {y pc : Nat} {q : Instr × Nat} (h : qt_code y pc = some q) : y < 170 := by
  by_cases hm : y < 170
  · exact hm
  · exfalso
    unfold qt_code at h
    rw [qo_b1 hm] at h
    cases h
theorem qs_args {na : Nat} {st as rest : List qm_V} (h : qm_args na st = some (as, rest)) : as.length = na ∧ st = as.reverse ++ rest := by
  unfold qm_args at h
  obtain ⟨hn, h⟩ := qs_if h
  cases h
  refine ⟨by simp; omega, ?_⟩
  rw [List.reverse_reverse, List.take_append_drop]
theorem qs_cat1 : ∀ as : List qm_V, (as.map qm_cat).sum = as.length → ∀ v ∈ as, qm_cat v = 1 := by
  have hge : ∀ v : qm_V, 1 ≤ qm_cat v := by
    intro v
    obtain x | ⟨a, b⟩ | x := v
    · exact Nat.le_refl 1
    · exact Nat.le_refl 1
    · show 1 ≤ 2
      decide
  have hle : ∀ as : List qm_V, as.length ≤ (as.map qm_cat).sum := by
    intro as
    induction as with
    | nil => simp
    | cons v r ih => have := hge v; simp; omega
  intro as
  induction as with
  | nil => intro _ v hv; cases hv
  | cons v r ih =>
    intro h w hw
    have h1 := hge v
    have h2 := hle r
    simp at h
    rcases List.mem_cons.mp hw with rfl | hw
    · omega
    · exact ih (by omega) w hw
def qs_nc (kc : qm_C) : qm_N → Prop
  | .inl r => kc.1 ≤ r.2.2.1 ∧ kc.2 ≤ r.2.2.2
  | .inr (.inl z) => kc.1 ≤ z.2.2.2.2.1 ∧ kc.2 ≤ z.2.2.2.2.2
  | .inr (.inr (_, _, z)) => kc = z.2.2.2.2
/-- what a run costs grows -/
theorem qs_run_cost {ro : Nat → Nat × (Nat → Int32)} : ∀ {n d y : Nat} {x : qm_S} {r : qm_R}, qm_run ro n d y x = some r → x.2.2.2.2.1 ≤ r.2.2.1 ∧ x.2.2.2.2.2 ≤ r.2.2.2 := by
  intro n
  induction n with
  | zero => intro d y x r h; cases h
  | succ n ih =>
    intro d y x r h
    obtain ⟨pc, lv, st, hp, kc⟩ := x
    rw [qm_run] at h
    dsimp only at h
    cases hs : qm_stp ro d y pc lv st hp kc with
    | none => rw [hs] at h; cases h
    | some q =>
      rw [hs] at h
      have hst : qs_nc kc q := by
        have spc : ∀ {d kd sp : Nat} {z : qm_S}, qm_spc d kd sp pc lv st hp kc = some z → kc.1 ≤ z.2.2.2.2.1 ∧ kc.2 ≤ z.2.2.2.2.2 := by
          intro d kd sp z hz
          obtain ⟨z1, z2, z3, z4, z5⟩ := z
          unfold qm_spc at hz
          obtain ⟨-, hz⟩ := qs_if hz
          split at hz
          · obtain ⟨_, _, hz⟩ := qs_bd hz
            obtain ⟨-, hz⟩ := qs_if hz
            obtain ⟨rfl, rfl, rfl, rfl, rfl⟩ := qs_go hz
            exact ⟨Nat.le_refl _, Nat.le_refl _⟩
          · obtain ⟨_, _, hz⟩ := qs_bd hz
            obtain ⟨-, hz⟩ := qs_if hz
            obtain ⟨rfl, rfl, rfl, rfl, rfl⟩ := qs_go hz
            exact ⟨Nat.le_refl _, Nat.le_refl _⟩
          · obtain ⟨_, _, hz⟩ := qs_bd hz
            obtain ⟨-, hz⟩ := qs_if hz
            obtain ⟨rfl, rfl, rfl, rfl, rfl⟩ := qs_go hz
            exact ⟨Nat.le_refl _, Nat.le_refl _⟩
          · cases hz
        have cl : ∀ {kd ix : Nat}, qm_call d kd y ix pc lv st hp kc = some q → qs_nc kc q := by
          intro kd ix hq
          unfold qm_call at hq
          split at hq
          · obtain ⟨⟨as, rest⟩, _, hq⟩ := qs_bd hq
            obtain ⟨-, hq⟩ := qs_if hq
            cases hq
            rfl
          · unfold qm_next at hq
            cases hz : qm_spc d kd (qt_spc (qt_own y) ix) pc lv st hp kc with
            | none => rw [hz] at hq; cases hq
            | some z => rw [hz] at hq; cases hq; exact spc hz
        unfold qm_stp at hs
        split at hs
        · obtain ⟨e, hs⟩ := qs_if hs
          cases hs
          rw [e.2.1]
          exact ⟨Nat.zero_le _, Nat.zero_le _⟩
        · split at hs
          · cases hs
          · split at hs
            · obtain ⟨-, hs⟩ := qs_if hs
              split at hs
              · obtain ⟨-, hs⟩ := qs_if hs
                cases hs
                exact ⟨Nat.le_refl _, Nat.le_refl _⟩
              · cases hs
            · obtain ⟨-, hs⟩ := qs_if hs
              split at hs
              · obtain ⟨-, hs⟩ := qs_if hs
                cases hs
                exact ⟨Nat.le_refl _, Nat.le_refl _⟩
              · cases hs
            · obtain ⟨-, hs⟩ := qs_if hs
              exact cl hs
            · obtain ⟨-, hs⟩ := qs_if hs
              exact cl hs
            · obtain ⟨-, hs⟩ := qs_if hs
              exact cl hs
            · unfold qm_next at hs
              rename_i i len _ _ _ _ _ _ _
              cases hz : qm_1 ro y i len pc lv st hp kc with
              | none => rw [hz] at hs; cases hs
              | some z =>
                rw [hz] at hs
                cases hs
                obtain ⟨z1, z2, z3, z4, z5⟩ := z
                exact qs_cost hz
      obtain r' | z | ⟨z, as, w⟩ := q
      · cases h
        exact hst
      · have h1 := ih h
        exact ⟨Nat.le_trans hst.1 h1.1, Nat.le_trans hst.2 h1.2⟩
      · cases d with
        | zero => cases h
        | succ d =>
          dsimp only at h hst
          cases hc : qm_run ro n d z (0, qm_ent z as, [], w.2.2.2.1, (0, 0)) with
          | none => rw [hc] at h; cases h
          | some q =>
            obtain ⟨o, h', c'⟩ := q
            rw [hc] at h
            dsimp only at h
            cases hb : qm_back y w o h' c' with
            | none => rw [hb] at h; cases h
            | some u =>
              rw [hb] at h
              unfold qm_back at hb
              rw [hst]
              split at hb
              · cases hb
                have h1 := ih h
                exact ⟨Nat.le_trans (Nat.le_add_right _ _) h1.1, Nat.le_trans (Nat.le_add_right _ _) h1.2⟩
              · split at hb
                · cases hb
                  cases h
                  exact ⟨Nat.le_add_right _ _, Nat.le_add_right _ _⟩
                · obtain ⟨_, _, hb⟩ := qs_bd hb
                  cases hb
                  have h1 := ih h
                  exact ⟨Nat.le_trans (Nat.le_add_right _ _) h1.1, Nat.le_trans (Nat.le_add_right _ _) h1.2⟩
