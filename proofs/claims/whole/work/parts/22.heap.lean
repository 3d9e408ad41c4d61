/-! the heap under reads, writes and makings -/
theorem qs_cel.kept {D : va_G} {cA : Nat → ClassId} {rc : Nat → Cell} {ad : Nat → Nat → Nat} {k i : Nat} {f : Nat → qm_V} {H H1 : Heap} (h : qs_cel D cA rc ad k i f H) (hq : H1[ad k i]? = H[ad k i]?) : qs_cel D cA rc ad k i f H1 := by
  unfold qs_cel at h ⊢
  split at h
  · exact h.kept hq
  · exact hq.trans h
  · exact hq.trans h
  · exact h
  · exact hq.trans h
theorem qs_arr_congr {cI : ClassId} {N : Nat} {f g : Nat → Value} (h : ∀ j, j < N → f j = g j) : arrV cI N f = arrV cI N g := by
  unfold arrV
  congr 1
  apply Array.ext
  · simp
  · intro j h1 h2
    simp only [Array.getElem_ofFn]
    exact h j (by simpa using h1)
theorem qs_cel.lt {D : va_G} {cA : Nat → ClassId} {rc : Nat → Cell} {ad : Nat → Nat → Nat} {k i : Nat} {f : Nat → qm_V} {H : Heap} (h : qs_cel D cA rc ad k i f H) (h6 : qk_tag k ≠ 6) : ad k i < H.size := by
  unfold qs_cel at h
  split at h
  · obtain ⟨cell, h1, -⟩ := h
    exact (Array.getElem?_eq_some_iff.mp h1).1
  · exact (Array.getElem?_eq_some_iff.mp h).1
  · exact (Array.getElem?_eq_some_iff.mp h).1
  · rename_i e; exact absurd e h6
  · exact (Array.getElem?_eq_some_iff.mp h).1
/-- a cell's addresses may be named anew where all that it holds is there -/
theorem qs_cel.ren {D : va_G} {cA : Nat → ClassId} {rc : Nat → Cell} {ad ad' : Nat → Nat → Nat} {h : qm_H} {k i : Nat} {H : Heap} (he : qs_ext h ad ad') (hi : i < h.1 k) (hw : ∀ j, j < qk_len k → qs_wf h (h.2 k i j)) (hc : qs_cel D cA rc ad k i (h.2 k i) H) : qs_cel D cA rc ad' k i (h.2 k i) H := by
  unfold qs_cel at hc ⊢
  split at hc
  · rw [he k i hi]
    exact hc.to (fun j hj => (qs_tv_wf he (hw j hj)).symm)
  · rw [he k i hi]; exact hc
  · rw [he k i hi]; exact hc
  · trivial
  · rw [he k i hi, hc]
    exact congrArg some (qs_arr_congr fun j hj => (qs_tv_wf he (hw j hj)).symm)
theorem qs_put_self (h : qm_H) (k i j : Nat) (v : qm_V) : (qm_put h k i j v).2 k i = fun c => if c = j then v else h.2 k i c := by
  funext c
  simp [qm_put]
theorem qs_put_ne {h : qm_H} {k i j k' i' : Nat} {v : qm_V} (hn : ¬ (k' = k ∧ i' = i)) : (qm_put h k i j v).2 k' i' = h.2 k' i' := by
  funext c
  simp only [qm_put]
  rw [if_neg]
  exact fun q => hn ⟨q.1, q.2.1⟩
theorem qs_wf_put {h : qm_H} {k i j : Nat} {v w : qm_V} (hw : qs_wf h w) : qs_wf (qm_put h k i j v) w := hw
/-- behind a write -/
theorem qs_rep.put {D : va_G} {cA : Nat → ClassId} {rc : Nat → Cell} {ad : Nat → Nat → Nat} {h : qm_H} {H H1 : Heap} {k i j : Nat} {v : qm_V} (hr : qs_rep D cA rc ad h H) (hi : i < h.1 k) (h6 : qk_tag k ≤ 4) (hv : qs_wf h v)
    (hc : qs_cel D cA rc ad k i (fun c => if c = j then v else h.2 k i c) H1) (ho : ∀ q, q ≠ ad k i → H1[q]? = H[q]?) : qs_rep D cA rc ad (qm_put h k i j v) H1 := by
  refine ⟨fun k' i' hi' => ?_, hr.2.1, fun k' i' j' hi' hj' => ?_⟩
  · by_cases hn : k' = k ∧ i' = i
    · obtain ⟨rfl, rfl⟩ := hn
      rw [qs_put_self]
      exact hc
    · rw [qs_put_ne hn]
      have h0 := hr.1 k' i' hi'
      by_cases h6' : qk_tag k' = 6
      · unfold qs_cel
        rw [h6']
        trivial
      · exact h0.kept (ho _ fun q => hn (hr.2.1 k' i' k i hi' hi h6' h6 q))
  · by_cases hn : k' = k ∧ i' = i
    · obtain ⟨rfl, rfl⟩ := hn
      rw [qs_put_self]
      dsimp only
      split
      · exact hv
      · exact hr.2.2 k' i' j' hi' hj'
    · rw [qs_put_ne hn]
      exact hr.2.2 k' i' j' hi' hj'
/-- the name of a cell that is made -/
def qs_nad (h : qm_H) (ad : Nat → Nat → Nat) (k q : Nat) : Nat → Nat → Nat := fun a b => if a = k ∧ b = h.1 k then q else ad a b
theorem qs_nad_ext (h : qm_H) (ad : Nat → Nat → Nat) (k q : Nat) : qs_ext h ad (qs_nad h ad k q) := by
  intro a b hb
  unfold qs_nad
  rw [if_neg]
  rintro ⟨rfl, rfl⟩
  exact Nat.lt_irrefl _ hb
theorem qs_nad_self (h : qm_H) (ad : Nat → Nat → Nat) (k q : Nat) : qs_nad h ad k q k (h.1 k) = q := if_pos ⟨rfl, rfl⟩
theorem qs_new_cnt (h : qm_H) (k : Nat) (f : Nat → qm_V) (a : Nat) : h.1 a ≤ (qm_new h k f).1 a := by
  simp only [qm_new]
  split
  · subst_vars; omega
  · exact Nat.le_refl _
theorem qs_new_old {h : qm_H} {k : Nat} {f : Nat → qm_V} {a b : Nat} (hb : b < h.1 a) : (qm_new h k f).2 a b = h.2 a b := by
  funext j
  simp only [qm_new]
  rw [if_neg]
  rintro ⟨rfl, rfl, -⟩
  exact Nat.lt_irrefl _ hb
theorem qs_new_self (h : qm_H) (k : Nat) (f : Nat → qm_V) {j : Nat} (hj : j < qk_len k) : (qm_new h k f).2 k (h.1 k) j = f j := by
  simp [qm_new, hj]
theorem qs_cel.congr {D : va_G} {cA : Nat → ClassId} {rc : Nat → Cell} {ad : Nat → Nat → Nat} {k i : Nat} {f g : Nat → qm_V} {H : Heap} (h : qs_cel D cA rc ad k i f H) (hg : ∀ j, j < qk_len k → f j = g j) : qs_cel D cA rc ad k i g H := by
  unfold qs_cel at h ⊢
  split at h
  · exact h.to (fun j hj => by rw [hg j hj])
  · exact h
  · exact h
  · exact h
  · rw [h]
    exact congrArg some (qs_arr_congr fun j hj => by rw [hg j hj])
theorem qs_new_lt {h : qm_H} {k : Nat} {f : Nat → qm_V} {a b : Nat} (hb : b < (qm_new h k f).1 a) : b < h.1 a ∨ (a = k ∧ b = h.1 k) := by
  simp only [qm_new] at hb
  split at hb
  · rename_i e
    subst e
    rcases Nat.lt_succ_iff_lt_or_eq.mp hb with q | q
    · exact Or.inl q
    · exact Or.inr ⟨rfl, q⟩
  · exact Or.inl hb
theorem qs_wf_new {h : qm_H} {k : Nat} {f : Nat → qm_V} {v : qm_V} (hv : qs_wf h v) : qs_wf (qm_new h k f) v := by
  obtain x | ⟨a, b⟩ | x := v
  · trivial
  · cases a with
    | zero => trivial
    | succ a => exact Nat.lt_of_lt_of_le (show b < h.1 (a + 1) from hv) (qs_new_cnt h k f (a + 1))
  · trivial
/-- behind a making -/
theorem qs_rep.new {D : va_G} {cA : Nat → ClassId} {rc : Nat → Cell} {ad : Nat → Nat → Nat} {h : qm_H} {H H1 : Heap} {k : Nat} {f : Nat → qm_V} (hr : qs_rep D cA rc ad h H) (hf : ∀ j, qs_wf h (f j))
    (hc : qk_tag k ≠ 6 → qs_cel D cA rc (qs_nad h ad k H.size) k (h.1 k) f H1) (ho : ∀ q, q < H.size → H1[q]? = H[q]?) : qs_rep D cA rc (qs_nad h ad k H.size) (qm_new h k f) H1 := by
  have hx := qs_nad_ext h ad k H.size
  refine ⟨fun a b hb => ?_, fun a b a' b' hb hb' h6 h6' e => ?_, fun a b j hb hj => ?_⟩
  · rcases qs_new_lt hb with hb | ⟨rfl, rfl⟩
    · rw [qs_new_old hb]
      by_cases h6 : qk_tag a = 6
      · unfold qs_cel
        rw [h6]
        trivial
      · have h0 := (hr.1 a b hb).ren hx hb (fun j hj => hr.2.2 a b j hb hj)
        refine h0.kept ?_
        rw [hx a b hb]
        exact ho _ ((hr.1 a b hb).lt h6)
    · by_cases h6 : qk_tag a = 6
      · unfold qs_cel
        rw [h6]
        trivial
      · exact (hc h6).congr (fun j hj => (qs_new_self h a f hj).symm)
  · rcases qs_new_lt hb with g | ⟨rfl, rfl⟩ <;> rcases qs_new_lt hb' with g' | ⟨rfl, rfl⟩
    · rw [hx a b g, hx a' b' g'] at e
      exact hr.2.1 a b a' b' g g' h6 h6' e
    · rw [hx a b g, qs_nad_self] at e
      have := (hr.1 a b g).lt h6
      omega
    · rw [hx a' b' g', qs_nad_self] at e
      have := (hr.1 a' b' g').lt (by omega)
      omega
    · exact ⟨rfl, rfl⟩
  · rcases qs_new_lt hb with hb | ⟨rfl, rfl⟩
    · rw [qs_new_old hb]
      exact qs_wf_new (hr.2.2 a b j hb hj)
    · rw [qs_new_self h a f hj]
      exact qs_wf_new (hf j)
