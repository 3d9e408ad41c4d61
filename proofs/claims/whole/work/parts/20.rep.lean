/-! what the small machine's state says of the real one -/
def tv (ad : Nat → Nat → Nat) (v : qm_V) : Value := match v with
  | .inl x => .int x
  | .inr (.inl (0, _)) => .null
  | .inr (.inl (k + 1, i)) => .ref (ad (k + 1) i)
  | .inr (.inr x) => .long x
/-- a reference names a cell that is there -/
def qs_wf (h : qm_H) (v : qm_V) : Prop := match v with
  | .inr (.inl (k + 1, i)) => i < h.1 (k + 1)
  | _ => True
/-- one cell -/
def qs_cel (D : va_G) (cA : Nat → ClassId) (rc : Nat → Cell) (ad : Nat → Nat → Nat) (k i : Nat) (f : Nat → qm_V) (H : Heap) : Prop := match qk_tag k with
  | 0 => t_OB (ad k i) (D.1 (qk_cls k)) (qk_len k) (D.2 (qk_cls k)) H (fun j => tv ad (f j))
  | 5 => H[ad k i]? = some (rc k)
  | 7 => H[ad k i]? = some (rc k)
  | 6 => True
  | _ => H[ad k i]? = some (arrV (cA k) (qk_len k) (fun j => tv ad (f j)))
def qs_rep (D : va_G) (cA : Nat → ClassId) (rc : Nat → Cell) (ad : Nat → Nat → Nat) (h : qm_H) (H : Heap) : Prop :=
  (∀ k i, i < h.1 k → qs_cel D cA rc ad k i (h.2 k i) H) ∧
  (∀ k i k' i', i < h.1 k → i' < h.1 k' → qk_tag k ≠ 6 → qk_tag k' ≤ 4 → ad k i = ad k' i' → k = k' ∧ i = i') ∧
  (∀ k i j, i < h.1 k → j < qk_len k → qs_wf h (h.2 k i j))
/-- old names keep their addresses -/
def qs_ext (h0 : qm_H) (ad0 ad : Nat → Nat → Nat) : Prop := ∀ k i, i < h0.1 k → ad k i = ad0 k i
/-- which cells a method may write: those that can be written, and those that it makes -/
def qs_A (h0 : qm_H) (ad0 : Nat → Nat → Nat) (sz : Nat) : Nat → Prop := fun q => (∃ k i, i < h0.1 k ∧ qk_tag k ≤ 4 ∧ q = ad0 k i) ∨ sz ≤ q
def qs_lv (ad : Nat → Nat → Nat) (nL : Nat) (ls : Array Slot) (lv : qm_L) : Prop := lv.length = nL ∧ (∀ v, some v ∈ lv → qm_cat v = 1) ∧ lv_has ls nL [] ∧ ∀ (i : Nat) (v : qm_V), lv[i]? = some (some v) → ls[i]? = some (Slot.val (tv ad v))
theorem qs_tv_cat (ad : Nat → Nat → Nat) (v : qm_V) : (tv ad v).category = qm_cat v := by
  obtain x | ⟨k, i⟩ | x := v
  · rfl
  · cases k <;> rfl
  · rfl
theorem qs_tv_wf {h0 : qm_H} {ad0 ad : Nat → Nat → Nat} (he : qs_ext h0 ad0 ad) {v : qm_V} (hv : qs_wf h0 v) : tv ad v = tv ad0 v := by
  obtain x | ⟨k, i⟩ | x := v
  · rfl
  · cases k with
    | zero => rfl
    | succ k => exact congrArg Value.ref (he (k + 1) i hv)
  · rfl
/-- the list that the kit's rows ask for -/
def qs_al (ad : Nat → Nat → Nat) (lv : qm_L) : List (Nat × Value) := (List.range lv.length).filterMap fun i => (qm_get lv i).map fun v => (i, tv ad v)
theorem qs_get {lv : qm_L} {i : Nat} {v : qm_V} : qm_get lv i = some v ↔ lv[i]? = some (some v) := by
  unfold qm_get
  constructor
  · intro h
    split at h
    · rename_i w hw; cases h; exact hw
    · cases h
  · intro h
    rw [h]
theorem qs_al_mem {ad : Nat → Nat → Nat} {lv : qm_L} {i : Nat} {w : Value} (h : (i, w) ∈ qs_al ad lv) : ∃ v, lv[i]? = some (some v) ∧ w = tv ad v := by
  unfold qs_al at h
  obtain ⟨j, -, hj⟩ := List.mem_filterMap.mp h
  cases hg : qm_get lv j with
  | none => rw [hg] at hj; cases hj
  | some v =>
    rw [hg] at hj
    cases hj
    exact ⟨v, qs_get.mp hg, rfl⟩
theorem qs_al_in {ad : Nat → Nat → Nat} {lv : qm_L} {i : Nat} {v : qm_V} (h : lv[i]? = some (some v)) : (i, tv ad v) ∈ qs_al ad lv := by
  unfold qs_al
  refine List.mem_filterMap.mpr ⟨i, List.mem_range.mpr (List.getElem?_eq_some_iff.mp h).1, ?_⟩
  rw [qs_get.mpr h]
  rfl
theorem qs_lv.has {ad : Nat → Nat → Nat} {nL : Nat} {ls : Array Slot} {lv : qm_L} (h : qs_lv ad nL ls lv) : lv_has ls nL (qs_al ad lv) := by
  refine ⟨h.2.2.1.1, h.2.2.1.2.1, fun q hq => ?_⟩
  obtain ⟨i, w⟩ := q
  obtain ⟨v, hv, rfl⟩ := qs_al_mem hq
  exact h.2.2.2 i v hv
/-- behind a store -/
theorem qs_lv.set {ad : Nat → Nat → Nat} {nL : Nat} {ls ls' : Array Slot} {lv : qm_L} {i : Nat} {x : qm_V} (h : qs_lv ad nL ls lv) (hx : qm_cat x = 1)
    (h' : lv_has ls' nL ((i, tv ad x) :: (qs_al ad lv).filter (fun q => !(q.1 == i) && !(q.1 + 1 == i && q.2.category == 2)))) : qs_lv ad nL ls' (lv.set i (some x)) := by
  refine ⟨by rw [List.length_set]; exact h.1, fun v hv => ?_, ⟨h'.1, h'.2.1, fun q hq => by cases hq⟩, fun j v hj => ?_⟩
  · rcases List.mem_or_eq_of_mem_set hv with hv | hv
    · exact h.2.1 v hv
    · cases hv; exact hx
  · by_cases hji : j = i
    · subst hji
      have hl : j < lv.length := by
        have := (List.getElem?_eq_some_iff.mp hj).1
        rwa [List.length_set] at this
      rw [List.getElem?_set_self hl] at hj
      cases hj
      exact h'.2.2 (j, tv ad x) List.mem_cons_self
    · rw [List.getElem?_set_ne (Ne.symm hji)] at hj
      refine h'.2.2 (j, tv ad v) (List.mem_cons_of_mem _ (List.mem_filter.mpr ⟨qs_al_in hj, ?_⟩))
      have hc : (tv ad v).category = 1 := by rw [qs_tv_cat]; exact h.2.1 v (List.mem_of_getElem? hj)
      simp [hji, hc]
