/-! the makings: heaps whose references are not all set yet -/
def qc_P (n : Nat → Nat) (s : qp_S) (P : Nat → Nat → Nat → Prop) (h : qm_H) : Prop := h.1 = n ∧ (∀ a b c, h.2 a b c = qp_c s 0 a b c ∨ P a b c) ∧ ∀ a b c, n a ≤ b → s a b c = 0
def qc_W (ro : Nat → Nat × (Nat → Int32)) (d m : Nat) (F : qm_O → qm_H → qm_C → Prop) (y : qm_S) : Prop := ∃ o h' c', qm_E ro d m y (o, h', c') ∧ F o h' c'
theorem qc_P.weak {n : Nat → Nat} {s : qp_S} {P P' : Nat → Nat → Nat → Prop} {h : qm_H} (hP : qc_P n s P h) (hw : ∀ a b c, P a b c → P' a b c) : qc_P n s P' h := ⟨hP.1, fun a b c => (hP.2.1 a b c).imp id (hw a b c), hP.2.2⟩
theorem qc_P.done {n : Nat → Nat} {s : qp_S} {P : Nat → Nat → Nat → Prop} {h : qm_H} {e : Nat → Nat} (hP : qc_P n s P h) (hn : ∀ k, n k = (bif Nat.ble 70 k then e k else qp_n k)) (hw : ∀ a b c, ¬ P a b c) : h = qp_H s 0 e := by
  obtain ⟨h1, h2, -⟩ := hP
  apply Prod.ext
  · rw [h1]
    funext k
    exact hn k
  · funext a b c
    exact (h2 a b c).resolve_right (hw a b c)
theorem qc_P.new {n : Nat → Nat} {s : qp_S} {P : Nat → Nat → Nat → Prop} {h : qm_H} {k : Nat} (hP : qc_P n s P h) : qc_P (qp_bump n k) s (fun a b c => P a b c ∨ (a = k ∧ b = n k ∧ c < qk_len k ∧ qk_dt k c = 1)) (qm_new h k (qk_def k)) := by
  obtain ⟨h1, h2, hz⟩ := hP
  refine ⟨?_, fun a b c => ?_, fun a b c hb => hz a b c (Nat.le_trans ?_ hb)⟩
  · funext a
    simp only [qm_new, qp_bump, h1]
  · simp only [qm_new, h1]
    by_cases hq : a = k ∧ b = n k ∧ c < qk_len k
    · rw [if_pos hq]
      obtain ⟨rfl, rfl, hc⟩ := hq
      unfold qk_def qp_c
      match hd : qk_dt a c with
      | 0 => left; rw [hz a (n a) c (Nat.le_refl _)]; rfl
      | 1 => right; right; exact ⟨rfl, rfl, hc, rfl⟩
      | t + 2 =>
        left
        show vL 0 = vL (bif _ then 0 else 0)
        cases (Nat.beq a 61 && (Nat.beq (n a) 0 && Nat.beq c 0)) <;> rfl
    · rw [if_neg hq]
      exact (h2 a b c).imp id Or.inl
  · unfold qp_bump
    split
    · rename_i e; rw [e]; omega
    · exact Nat.le_refl _
theorem qc_P.putI {n : Nat → Nat} {s : qp_S} {P : Nat → Nat → Nat → Prop} {h : qm_H} {k i j : Nat} {v : Int32} (hP : qc_P n s P h) (hd : qk_dt k j = 0) (hi : i < n k) : qc_P n (qp_up s k i j v) P (qm_put h k i j (vI v)) := by
  obtain ⟨h1, h2, hz⟩ := hP
  refine ⟨h1, fun a b c => ?_, fun a b c hb => ?_⟩
  rotate_left
  · unfold qp_up
    rw [if_neg]
    · exact hz a b c hb
    · rintro ⟨rfl, rfl, -⟩
      exact absurd hi (Nat.not_lt.mpr hb)
  simp only [qm_put]
  unfold qp_c qp_up
  by_cases hq : a = k ∧ b = i ∧ c = j
  · rw [if_pos hq]
    left
    obtain ⟨rfl, rfl, rfl⟩ := hq
    rw [hd, if_pos ⟨rfl, rfl, rfl⟩]
    rfl
  · rw [if_neg hq, if_neg hq]
    exact h2 a b c
theorem qc_P.putR {n : Nat → Nat} {s : qp_S} {P : Nat → Nat → Nat → Prop} {h : qm_H} {k i j : Nat} {v : qm_V} (hP : qc_P n s P h) (hv : qp_c s 0 k i j = v) : qc_P n s (fun a b c => P a b c ∧ ¬ (a = k ∧ b = i ∧ c = j)) (qm_put h k i j v) := by
  obtain ⟨h1, h2, hz⟩ := hP
  refine ⟨h1, fun a b c => ?_, hz⟩
  simp only [qm_put]
  by_cases hq : a = k ∧ b = i ∧ c = j
  · rw [if_pos hq]
    left
    obtain ⟨rfl, rfl, rfl⟩ := hq
    exact hv.symm
  · rw [if_neg hq]
    exact (h2 a b c).imp id fun hp => ⟨hp, hq⟩
section QC
variable {ro : Nat → Nat × (Nat → Int32)} {d m pc pc' : Nat} {lv lv' : qm_L} {st st' : List qm_V} {h : qm_H} {c c' : qm_C} {s : qp_S} {n : Nat → Nat} {P : Nat → Nat → Nat → Prop} {F : qm_O → qm_H → qm_C → Prop}
theorem qc_next {y : qm_S} (hs : qm_stp ro d m pc lv st h c = some (.inr (.inl y))) (k : qc_W ro d m F y) : qc_W ro d m F (pc, lv, st, h, c) := by
  obtain ⟨o, h', c', k1, k2⟩ := k
  exact ⟨o, h', c', qm_E_next hs k1, k2⟩
theorem qc_done {o : qm_O} (hs : qm_stp ro d m pc lv st h c = some (.inl (o, h, c))) (hF : F o h c) : qc_W ro d m F (pc, lv, st, h, c) := ⟨o, h, c, qm_E_done hs, hF⟩
theorem qc_new {k i : Nat} (hP : qc_P n s P h) (hs : qm_stp ro d m pc lv st h c = some (.inr (.inl (pc', lv', vR k (h.1 k) :: st', qm_new h k (qk_def k), c')))) (hn : n k = i)
    (kk : ∀ h1, qc_P (qp_bump n k) s (fun a b c => P a b c ∨ (a = k ∧ b = i ∧ c < qk_len k ∧ qk_dt k c = 1)) h1 → qc_W ro d m F (pc', lv', vR k i :: st', h1, c')) : qc_W ro d m F (pc, lv, st, h, c) := by
  subst hn
  rw [hP.1] at hs
  exact qc_next hs (kk _ hP.new)
theorem qc_newI {k i : Nat} (hP : qc_P n s P h) (hs : qm_stp ro d m pc lv st h c = some (.inr (.inl (pc', lv', vR k (h.1 k) :: st', qm_new h k (qk_def k), c')))) (hn : n k = i) (hd : ∀ j, j < qk_len k → ¬ qk_dt k j = 1)
    (kk : ∀ h1, qc_P (qp_bump n k) s P h1 → qc_W ro d m F (pc', lv', vR k i :: st', h1, c')) : qc_W ro d m F (pc, lv, st, h, c) :=
  qc_new hP hs hn fun h1 hP1 => kk h1 (hP1.weak fun a b c hq => hq.elim id fun ⟨_, _, h3, h4⟩ => absurd h4 (hd c h3))
theorem qc_putI {k i j : Nat} {v : Int32} (hP : qc_P n s P h) (hs : qm_stp ro d m pc lv st h c = some (.inr (.inl (pc', lv', st', qm_put h k i j (vI v), c')))) (hd : qk_dt k j = 0) (hi : i < n k)
    (kk : ∀ h1, qc_P n (qp_up s k i j v) P h1 → qc_W ro d m F (pc', lv', st', h1, c')) : qc_W ro d m F (pc, lv, st, h, c) := qc_next hs (kk _ (hP.putI hd hi))
theorem qc_putR {k i j : Nat} {v : qm_V} (hP : qc_P n s P h) (hs : qm_stp ro d m pc lv st h c = some (.inr (.inl (pc', lv', st', qm_put h k i j v, c')))) (hv : qp_c s 0 k i j = v)
    (kk : ∀ h1, qc_P n s (fun a b c => P a b c ∧ ¬ (a = k ∧ b = i ∧ c = j)) h1 → qc_W ro d m F (pc', lv', st', h1, c')) : qc_W ro d m F (pc, lv, st, h, c) := qc_next hs (kk _ (hP.putR hv))
theorem qc_get {k i j : Nat} {v : qm_V} (hP : qc_P n s P h) (hs : qm_stp ro d m pc lv st h c = some (.inr (.inl (pc', lv', h.2 k i j :: st', h, c')))) (hn : ¬ P k i j) (hv : qp_c s 0 k i j = v)
    (kk : qc_W ro d m F (pc', lv', v :: st', h, c')) : qc_W ro d m F (pc, lv, st, h, c) := by
  rw [(hP.2.1 k i j).resolve_right hn, hv] at hs
  exact qc_next hs kk
theorem qc_call {y : Nat} {as : List qm_V} {G : qm_O → qm_H → qm_C → Prop} (hs : qm_stp ro (d + 1) m pc lv st h c = some (.inr (.inr (y, as, (pc', lv', st', h, c))))) (hc : qc_W ro d y G (0, qm_ent y as, [], h, (0, 0)))
    (hG : ∀ o h1 c1, G o h1 c1 → o = .inl none) (kk : ∀ h1 c1, G (.inl none) h1 c1 → qc_W ro (d + 1) m F (pc' + 3, lv', st', h1, (c.1 + c1.1, c.2 + c1.2))) : qc_W ro (d + 1) m F (pc, lv, st, h, c) := by
  obtain ⟨o, h1, c1, k1, k2⟩ := hc
  obtain rfl := hG o h1 c1 k2
  obtain ⟨o2, h2, c2, k3, k4⟩ := kk h1 c1 k2
  exact ⟨o2, h2, c2, qm_E_call hs k1 rfl k3, k4⟩
/-- Object.<init> -/
theorem qc_obj {ix k i : Nat} (ht : qt_thr m pc = none) (hcd : qt_code m pc = some (.invokespecial ix, 3)) (hm : qt_met (qt_own m) ix = none) (hs : qt_spc (qt_own m) ix = 1) (hc : (st.map qm_cat).sum ≤ 8) (kk : qc_W ro (d + 1) m F (pc + 3, lv, st, h, c)) : qc_W ro (d + 1) m F (pc, lv, vR (k + 1) i :: st, h, c) := by
  refine qc_next (y := (pc + 3, lv, st, h, c)) ?_ kk
  unfold qm_stp
  rw [ht, hcd]
  dsimp only
  rw [if_pos rfl]
  unfold qm_call
  rw [hm, hs]
  dsimp only
  unfold qm_spc
  rw [if_pos (by omega)]
  show qm_next (if (st.map qm_cat).sum ≤ 8 then qm_go (pc + 3) lv st h c else none) = _
  rw [if_pos hc]
  rfl
end QC
/-- a slot -/
theorem qc6 {ro : Nat → Nat × (Nat → Int32)} (d i : Nat) {n : Nat → Nat} {s : qp_S} {P : Nat → Nat → Nat → Prop} {h : qm_H} (hP : qc_P n s P h) (hi : i < n 16) : qc_W ro (d + 1) 6 (fun o h1 c1 => o = .inl none ∧ c1 = (0, 0) ∧ qc_P n (qp_up s 16 i 0 (-1)) P h1) (0, qm_ent 6 [vR 16 i], [], h, (0, 0)) := by
  refine qc_next rfl ?_
  refine qc_obj rfl rfl rfl rfl (Nat.le_of_ble_eq_true rfl) ?_
  iterate 2 refine qc_next rfl ?_
  refine qc_putI hP rfl rfl hi fun h1 hP1 => ?_
  exact qc_done rfl ⟨rfl, rfl, hP1⟩
/-- an actuator -/
theorem qc10 {ro : Nat → Nat × (Nat → Int32)} (d i : Nat) {n : Nat → Nat} {s : qp_S} {P : Nat → Nat → Nat → Prop} {h : qm_H} (hP : qc_P n s P h) (hi : i < n 26) : qc_W ro (d + 1) 10 (fun o h1 c1 => o = .inl none ∧ c1 = (0, 0) ∧ qc_P n (qp_up s 26 i 0 (-1)) P h1) (0, qm_ent 10 [vR 26 i], [], h, (0, 0)) := by
  refine qc_next rfl ?_
  refine qc_obj rfl rfl rfl rfl (Nat.le_of_ble_eq_true rfl) ?_
  iterate 2 refine qc_next rfl ?_
  refine qc_putI hP rfl rfl hi fun h1 hP1 => ?_
  exact qc_done rfl ⟨rfl, rfl, hP1⟩
/-- a port, a guard -/
theorem qc7 {ro : Nat → Nat × (Nat → Int32)} (d i : Nat) {n : Nat → Nat} {s : qp_S} {P : Nat → Nat → Nat → Prop} {h : qm_H} (hP : qc_P n s P h) : qc_W ro (d + 1) 7 (fun o h1 c1 => o = .inl none ∧ c1 = (0, 0) ∧ qc_P n s P h1) (0, qm_ent 7 [vR 21 i], [], h, (0, 0)) := by
  refine qc_next rfl ?_
  refine qc_obj rfl rfl rfl rfl (Nat.le_of_ble_eq_true rfl) ?_
  exact qc_done rfl ⟨rfl, rfl, hP⟩
theorem qc9 {ro : Nat → Nat × (Nat → Int32)} (d i : Nat) {n : Nat → Nat} {s : qp_S} {P : Nat → Nat → Nat → Prop} {h : qm_H} (hP : qc_P n s P h) : qc_W ro (d + 1) 9 (fun o h1 c1 => o = .inl none ∧ c1 = (0, 0) ∧ qc_P n s P h1) (0, qm_ent 9 [vR 25 i], [], h, (0, 0)) := by
  refine qc_next rfl ?_
  refine qc_obj rfl rfl rfl rfl (Nat.le_of_ble_eq_true rfl) ?_
  exact qc_done rfl ⟨rfl, rfl, hP⟩
/-- a stack -/
theorem qc5 {ro : Nat → Nat × (Nat → Int32)} (d i : Nat) {n : Nat → Nat} {s : qp_S} {P : Nat → Nat → Nat → Prop} {h : qm_H} (hP : qc_P n s P h) (hn : n 20 = i) : qc_W ro (d + 1) 5 (fun o h1 c1 => o = .inl none ∧ c1 = (1, 8) ∧ qc_P (qp_bump n 20) s (fun a b c => P a b c ∧ ¬ (a = 19 ∧ b = i ∧ c = 0)) h1) (0, qm_ent 5 [vR 19 i], [], h, (0, 0)) := by
  refine qc_next rfl ?_
  refine qc_obj rfl rfl rfl rfl (Nat.le_of_ble_eq_true rfl) ?_
  iterate 2 refine qc_next rfl ?_
  refine qc_newI hP rfl hn (fun j _ => by show ¬ (0 = 1); decide) fun h1 hP1 => ?_
  refine qc_putR hP1 rfl rfl fun h2 hP2 => ?_
  exact qc_done rfl ⟨rfl, rfl, hP2⟩
/-- the log of events -/
theorem qc1 {ro : Nat → Nat × (Nat → Int32)} (d : Nat) {n : Nat → Nat} {s : qp_S} {P : Nat → Nat → Nat → Prop} {h : qm_H} (hP : qc_P n s P h) (hn : n 9 = 0) : qc_W ro (d + 1) 1 (fun o h1 c1 => o = .inl none ∧ c1 = (1, 1200) ∧ qc_P (qp_bump n 9) s (fun a b c => P a b c ∧ ¬ (a = 8 ∧ b = 0 ∧ c = 0)) h1) (0, qm_ent 1 [vR 8 0], [], h, (0, 0)) := by
  refine qc_next rfl ?_
  refine qc_obj rfl rfl rfl rfl (Nat.le_of_ble_eq_true rfl) ?_
  iterate 2 refine qc_next rfl ?_
  refine qc_newI hP rfl hn (fun j _ => by show ¬ (0 = 1); decide) fun h1 hP1 => ?_
  refine qc_putR hP1 rfl rfl fun h2 hP2 => ?_
  exact qc_done rfl ⟨rfl, rfl, hP2⟩
/-- the look at codes -/
theorem qc3 {ro : Nat → Nat × (Nat → Int32)} (d : Nat) {n : Nat → Nat} {s : qp_S} {P : Nat → Nat → Nat → Prop} {h : qm_H} (hP : qc_P n s P h) (hn : n 12 = 0) (hn2 : n 13 = 0) : qc_W ro (d + 1) 3 (fun o h1 c1 => o = .inl none ∧ c1 = (2, 64) ∧ qc_P (qp_bump (qp_bump n 12) 13) s (fun a b c => P a b c ∧ ¬ (a = 11 ∧ b = 0 ∧ (c = 0 ∨ c = 1))) h1) (0, qm_ent 3 [vR 11 0], [], h, (0, 0)) := by
  refine qc_next rfl ?_
  refine qc_obj rfl rfl rfl rfl (Nat.le_of_ble_eq_true rfl) ?_
  iterate 2 refine qc_next rfl ?_
  refine qc_newI hP rfl hn (fun j _ => by show ¬ (0 = 1); decide) fun h1 hP1 => ?_
  refine qc_putR hP1 rfl rfl fun h2 hP2 => ?_
  iterate 2 refine qc_next rfl ?_
  refine qc_newI hP2 rfl hn2 (fun j _ => by show ¬ (0 = 1); decide) fun h3 hP3 => ?_
  refine qc_putR hP3 rfl rfl fun h4 hP4 => ?_
  exact qc_done rfl ⟨rfl, rfl, hP4.weak fun a b c hq => ⟨hq.1.1, fun hz => hz.2.2.elim (fun e => hq.1.2 ⟨hz.1, hz.2.1, e⟩) (fun e => hq.2 ⟨hz.1, hz.2.1, e⟩)⟩⟩
/-- the look at programs -/
theorem qc2 {ro : Nat → Nat × (Nat → Int32)} (d : Nat) {n : Nat → Nat} {s : qp_S} {P : Nat → Nat → Nat → Prop} {h : qm_H} (hP : qc_P n s P h) (hn : n 11 = 0) (hn1 : n 12 = 0) (hn2 : n 13 = 0) : qc_W ro (d + 2) 2 (fun o h1 c1 => o = .inl none ∧ c1 = (3, 67) ∧ qc_P (qp_bump (qp_bump (qp_bump n 11) 12) 13) s (fun a b c => P a b c ∧ ¬ (a = 10 ∧ b = 0 ∧ c = 0)) h1) (0, qm_ent 2 [vR 10 0], [], h, (0, 0)) := by
  refine qc_next rfl ?_
  refine qc_obj rfl rfl rfl rfl (Nat.le_of_ble_eq_true rfl) ?_
  refine qc_next rfl ?_
  refine qc_new hP rfl hn fun h1 hP1 => ?_
  refine qc_next rfl ?_
  refine qc_call rfl (qc3 d hP1 hn1 hn2) (fun o h1 c1 hG => hG.1) fun h2 c2 hG => ?_
  obtain ⟨-, rfl, hP2⟩ := hG
  refine qc_putR hP2 rfl rfl fun h3 hP3 => ?_
  refine qc_done rfl ⟨rfl, rfl, hP3.weak fun a b c hq => ⟨?_, hq.2⟩⟩
  obtain ⟨⟨q1 | ⟨rfl, rfl, q3, q4⟩, q2⟩, -⟩ := hq
  · exact q1
  · exfalso
    have q3 : c < 3 := q3
    have : c = 0 ∨ c = 1 ∨ c = 2 := by omega
    rcases this with rfl | rfl | rfl
    · exact q2 ⟨rfl, rfl, Or.inl rfl⟩
    · exact q2 ⟨rfl, rfl, Or.inr rfl⟩
    · exact absurd q4 (by decide)
