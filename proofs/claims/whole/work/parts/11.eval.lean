/-! fuel and depth may grow; the rules of a run -/
theorem qm_more {ro : Nat → Nat × (Nat → Int32)} : ∀ {n d m : Nat} {x : qm_S} {r : qm_R}, qm_run ro n d m x = some r → qm_run ro (n + 1) d m x = some r := by
  intro n
  induction n with
  | zero => intro d m x r h; cases h
  | succ n ih =>
    intro d m x r h
    rw [qm_run] at h
    rw [qm_run]
    cases hs : qm_stp ro d m x.1 x.2.1 x.2.2.1 x.2.2.2.1 x.2.2.2.2 with
    | none => rw [hs] at h; cases h
    | some q =>
      rw [hs] at h
      obtain r' | y | ⟨y, as, z⟩ := q
      · exact h
      · exact ih h
      · cases d with
        | zero => cases h
        | succ d =>
          dsimp only at h ⊢
          cases hc : qm_run ro n d y (0, qm_ent y as, [], z.2.2.2.1, (0, 0)) with
          | none => rw [hc] at h; cases h
          | some q =>
            obtain ⟨o, h', c'⟩ := q
            rw [hc] at h
            rw [ih hc]
            dsimp only at h ⊢
            cases hb : qm_back m z o h' c' with
            | none => rw [hb] at h; cases h
            | some w =>
              rw [hb] at h
              obtain r' | w := w
              · exact h
              · exact ih h
theorem qm_le {ro : Nat → Nat × (Nat → Int32)} {n k d m : Nat} {x : qm_S} {r : qm_R} (h : qm_run ro n d m x = some r) (hk : n ≤ k) : qm_run ro k d m x = some r := by
  induction hk with
  | refl => exact h
  | step _ ih => exact qm_more ih
theorem qm_spc_deep {d kd sp pc : Nat} {lv : qm_L} {st : List qm_V} {hp : qm_H} {c : qm_C} {q : qm_S} (h : qm_spc d kd sp pc lv st hp c = some q) : qm_spc (d + 1) kd sp pc lv st hp c = some q := by
  unfold qm_spc at h ⊢
  split at h
  · rw [if_pos (by omega)]; exact h
  · cases h
theorem qm_call_deep {d kd m ix pc : Nat} {lv : qm_L} {st : List qm_V} {hp : qm_H} {c : qm_C} {q : qm_N} (h : qm_call d kd m ix pc lv st hp c = some q) : qm_call (d + 1) kd m ix pc lv st hp c = some q := by
  unfold qm_call at h ⊢
  cases hm : qt_met (qt_own m) ix with
  | some y => rw [hm] at h; exact h
  | none =>
    rw [hm] at h
    dsimp only at h ⊢
    cases hs : qm_spc d kd (qt_spc (qt_own m) ix) pc lv st hp c with
    | none => rw [hs] at h; cases h
    | some z => rw [hs] at h; rw [qm_spc_deep hs]; exact h
theorem qm_stp_deep {ro : Nat → Nat × (Nat → Int32)} {d m pc : Nat} {lv : qm_L} {st : List qm_V} {hp : qm_H} {c : qm_C} {q : qm_N} (h : qm_stp ro d m pc lv st hp c = some q) : qm_stp ro (d + 1) m pc lv st hp c = some q := by
  unfold qm_stp at h ⊢
  cases ht : qt_thr m pc with
  | some k =>
    rw [ht] at h
    dsimp only at h ⊢
    split at h
    · rename_i e; rw [if_pos ⟨by omega, e.2⟩]; exact h
    · cases h
  | none =>
    rw [ht] at h
    dsimp only at h ⊢
    cases hc : qt_code m pc with
    | none => rw [hc] at h; cases h
    | some r =>
      obtain ⟨i, len⟩ := r
      rw [hc] at h
      dsimp only at h ⊢
      cases i with
      | invokestatic ix =>
        dsimp only at h ⊢
        split at h
        · rename_i e; rw [if_pos e]; exact qm_call_deep h
        · cases h
      | invokevirtual ix =>
        dsimp only at h ⊢
        split at h
        · rename_i e; rw [if_pos e]; exact qm_call_deep h
        · cases h
      | invokespecial ix =>
        dsimp only at h ⊢
        split at h
        · rename_i e; rw [if_pos e]; exact qm_call_deep h
        · cases h
      | _ => exact h
theorem qm_deep {ro : Nat → Nat × (Nat → Int32)} : ∀ {n d m : Nat} {x : qm_S} {r : qm_R}, qm_run ro n d m x = some r → qm_run ro n (d + 1) m x = some r := by
  intro n
  induction n with
  | zero => intro d m x r h; cases h
  | succ n ih =>
    intro d m x r h
    rw [qm_run] at h
    rw [qm_run]
    cases hs : qm_stp ro d m x.1 x.2.1 x.2.2.1 x.2.2.2.1 x.2.2.2.2 with
    | none => rw [hs] at h; cases h
    | some q =>
      rw [hs] at h
      rw [qm_stp_deep hs]
      obtain r' | y | ⟨y, as, z⟩ := q
      · exact h
      · exact ih h
      · cases d with
        | zero => cases h
        | succ d =>
          dsimp only at h ⊢
          cases hc : qm_run ro n d y (0, qm_ent y as, [], z.2.2.2.1, (0, 0)) with
          | none => rw [hc] at h; cases h
          | some q =>
            obtain ⟨o, h', c'⟩ := q
            rw [hc] at h
            rw [ih hc]
            dsimp only at h ⊢
            cases hb : qm_back m z o h' c' with
            | none => rw [hb] at h; cases h
            | some w =>
              rw [hb] at h
              obtain r' | w := w
              · exact h
              · exact ih h
section QE
variable {ro : Nat → Nat × (Nat → Int32)} {d m pc : Nat} {lv : qm_L} {st : List qm_V} {hp : qm_H} {c : qm_C} {r : qm_R}
theorem qm_E.up {x : qm_S} {k : Nat} (h : qm_E ro k m x r) (hk : k ≤ d) : qm_E ro d m x r := by
  obtain ⟨n, h⟩ := h
  induction hk with
  | refl => exact ⟨n, h⟩
  | step _ ih => obtain ⟨n, h⟩ := ih; exact ⟨n, qm_deep h⟩
theorem qm_E_done (h : qm_stp ro d m pc lv st hp c = some (.inl r)) : qm_E ro d m (pc, lv, st, hp, c) r := ⟨1, by rw [qm_run]; dsimp only; rw [h]⟩
theorem qm_E_next {y : qm_S} (h : qm_stp ro d m pc lv st hp c = some (.inr (.inl y))) (k : qm_E ro d m y r) : qm_E ro d m (pc, lv, st, hp, c) r := by
  obtain ⟨n, k⟩ := k
  exact ⟨n + 1, by rw [qm_run]; dsimp only; rw [h]; exact k⟩
theorem qm_E_call {y : Nat} {as : List qm_V} {z : qm_S} {o : qm_O} {h' : qm_H} {c' : qm_C} {w : qm_S} (h : qm_stp ro (d + 1) m pc lv st hp c = some (.inr (.inr (y, as, z)))) (hc : qm_E ro d y (0, qm_ent y as, [], z.2.2.2.1, (0, 0)) (o, h', c')) (hb : qm_back m z o h' c' = some (.inr w)) (k : qm_E ro (d + 1) m w r) : qm_E ro (d + 1) m (pc, lv, st, hp, c) r := by
  obtain ⟨n1, h1⟩ := hc
  obtain ⟨n2, h2⟩ := k
  refine ⟨max n1 n2 + 1, ?_⟩
  rw [qm_run]
  dsimp only
  rw [h]
  dsimp only
  rw [qm_le h1 (Nat.le_max_left n1 n2)]
  dsimp only
  rw [hb]
  exact qm_le h2 (Nat.le_max_right n1 n2)
theorem qm_E_out {y : Nat} {as : List qm_V} {z : qm_S} {o : qm_O} {h' : qm_H} {c' : qm_C} (h : qm_stp ro (d + 1) m pc lv st hp c = some (.inr (.inr (y, as, z)))) (hc : qm_E ro d y (0, qm_ent y as, [], z.2.2.2.1, (0, 0)) (o, h', c')) (hb : qm_back m z o h' c' = some (.inl r)) : qm_E ro (d + 1) m (pc, lv, st, hp, c) r := by
  obtain ⟨n1, h1⟩ := hc
  refine ⟨n1 + 1, ?_⟩
  rw [qm_run]
  dsimp only
  rw [h]
  dsimp only
  rw [h1]
  dsimp only
  rw [hb]
end QE
