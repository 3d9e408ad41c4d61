/-! PeriodKernel pick -/
def qf94 (a1 : Int32) (s : qp_S) : Option (Nat ⊕ (Int32 × qp_S)) := ((qf24 a1 (8 : Int32) s).bind fun z1 => match z1 with | .inl k => some (.inl k) | .inr q1 => (if qm_inb a1 8 = true then ((qf16 (a1).toNatClampNeg s).bind fun q2 => (bif qm_cmp .eq q2 (0 : Int32) then (if (q2 = 0 ∨ q2 = 1) then some (.inr (q2, s)) else none) else (if qm_inb a1 8 = true then ((qf95 (a1).toNatClampNeg s).bind fun q3 => (if (q2 = 0 ∨ q2 = 1) then some (.inr (q2, q3.2)) else none)) else none))) else none))
theorem qe94 (d : Nat) {L : Nat} {xs : Nat → Int32} {x : Int64} {e : Nat → Nat}    {a1 : Int32} {s : qp_S} {r : Nat ⊕ (Int32 × qp_S)} (h : qf94  a1 s = some r) : qm_E (qz_ro L xs) (d + 7) 94 (0, qm_ent 94 [vR 1 0, vI a1], [], qp_H s x e, (0, 0)) (Sum.elim (fun k => qf_k k s x e) (fun v => qf_v v.1 v.2 x e) r) := by
  unfold qf94 at h
  iterate 2 refine qm_E_next rfl ?_
  obtain ⟨z1, hq, h⟩ := qs_bd h
  rcases z1 with k | q1
  · cases h
    exact qm_E_out rfl (qe24 (d + 0) hq) rfl
  · refine qm_E_call rfl (qe24 (d + 0) hq) rfl ?_
    change qm_E _ _ _ (6, [some (vR 1 0), some (vI a1), none], [], qp_H s x e, (0, 0)) _
    iterate 3 refine qm_E_next rfl ?_
    obtain ⟨hb, h⟩ := qr_inb h
    refine qr_aaload hb rfl rfl rfl ?_
    change qm_E _ _ _ (12, [some (vR 1 0), some (vI a1), none], [vR 14 (a1).toNatClampNeg], qp_H s x e, (0, 0)) _
    obtain ⟨q2, hq, h⟩ := qs_bd h
    refine qm_E_call rfl (qe16 (d + 6) hq) rfl ?_
    change qm_E _ _ _ (15, [some (vR 1 0), some (vI a1), none], [vI q2], qp_H s x e, (0, 0)) _
    iterate 2 refine qm_E_next rfl ?_
    rcases qr_cond h with ⟨hb, h⟩ | ⟨hb, h⟩
    · refine qr_t hb rfl ?_
      change qm_E _ _ _ (29, [some (vR 1 0), some (vI a1), some (vI q2)], [], qp_H s x e, (0, 0)) _
      iterate 1 refine qm_E_next rfl ?_
      obtain ⟨hz, h⟩ := qr_inb h
      cases h
      exact qr_iret (Or.inr ⟨rfl, hz⟩) rfl rfl
    · refine qr_f hb rfl ?_
      change qm_E _ _ _ (20, [some (vR 1 0), some (vI a1), some (vI q2)], [], qp_H s x e, (0, 0)) _
      iterate 3 refine qm_E_next rfl ?_
      obtain ⟨hb, h⟩ := qr_inb h
      refine qr_aaload hb rfl rfl rfl ?_
      change qm_E _ _ _ (26, [some (vR 1 0), some (vI a1), some (vI q2)], [vR 14 (a1).toNatClampNeg], qp_H s x e, (0, 0)) _
      obtain ⟨q3, hq, h⟩ := qs_bd h
      refine qm_E_call rfl (qe95 (d + 3) hq) rfl ?_
      change qm_E _ _ _ (29, [some (vR 1 0), some (vI a1), some (vI q2)], [], qp_H q3.2 x e, (0, 0)) _
      iterate 1 refine qm_E_next rfl ?_
      obtain ⟨hz, h⟩ := qr_inb h
      cases h
      exact qr_iret (Or.inr ⟨rfl, hz⟩) rfl rfl
/-! PeriodKernel checkRunning -/
def qf106 (s : qp_S) : Option (Nat ⊕ (Int32)) := (bif qm_cmp .ne (s 1 0 8) (0 : Int32) then some (.inr 0) else some (.inl 72))
theorem qe106 (d : Nat) {L : Nat} {xs : Nat → Int32} {x : Int64} {e : Nat → Nat}     {s : qp_S} {r : Nat ⊕ (Int32)} (h : qf106   s = some r) : qm_E (qz_ro L xs) (d + 6) 106 (0, qm_ent 106 [vR 1 0], [], qp_H s x e, (0, 0)) (Sum.elim (fun k => qf_k k s x e) (fun v => qf_u s x e) r) := by
  unfold qf106 at h
  iterate 2 refine qm_E_next rfl ?_
  rcases qr_cond h with ⟨hb, h⟩ | ⟨hb, h⟩
  · refine qr_t hb rfl ?_
    change qm_E _ _ _ (17, [some (vR 1 0)], [], qp_H s x e, (0, 0)) _
    cases h
    exact qr_ret rfl rfl rfl
  · refine qr_f hb rfl ?_
    change qm_E _ _ _ (7, [some (vR 1 0)], [], qp_H s x e, (0, 0)) _
    cases h
    exact qr_thr rfl (by omega) rfl (by decide) rfl
/-! PeriodKernel findMostUrgent -/
def qf107_4  : Nat → Int32 → Int32 → qp_S → Option (Int32)
  | 0, _, _, _ => none
  | n + 1, a1, a2, s => (bif qm_cmp .ge a2 (8 : Int32) then some a1 else (if qm_inb a2 8 = true then ((qf16 (a2).toNatClampNeg s).bind fun q1 => (bif qm_cmp .eq q1 (0 : Int32) then qf107_4  n a1 (a2 + (1 : Int32)) s else (bif qm_cmp .eq a1 (-1 : Int32) then qf107_4  n a2 (a2 + (1 : Int32)) s else (if qm_inb a2 8 = true then (if qm_inb a1 8 = true then (bif qm_cmp .ge (s 14 (a2).toNatClampNeg 3) (s 14 (a1).toNatClampNeg 3) then qf107_4  n a1 (a2 + (1 : Int32)) s else qf107_4  n a2 (a2 + (1 : Int32)) s) else none) else none)))) else none))
theorem qe107_4 (d : Nat) {L : Nat} {xs : Nat → Int32} {x : Int64} {e : Nat → Nat}   : ∀ {n : Nat}  {a1 : Int32} {a2 : Int32} {s : qp_S} {r : Int32}, qf107_4  n a1 a2 s = some r → qm_E (qz_ro L xs) (d + 1) 107 (4, [some (vR 1 0), some (vI a1), some (vI a2)], [], qp_H s x e, (0, 0)) (qf_v r s x e) := by
  intro n
  induction n with
  | zero => intro  a1 a2 s r h; cases h
  | succ n ih =>
    intro  a1 a2 s r h
    unfold qf107_4 at h
    iterate 2 refine qm_E_next rfl ?_
    rcases qr_cond h with ⟨hb, h⟩ | ⟨hb, h⟩
    · refine qr_t hb rfl ?_
      change qm_E _ _ _ (56, [some (vR 1 0), some (vI a1), some (vI a2)], [], qp_H s x e, (0, 0)) _
      iterate 1 refine qm_E_next rfl ?_
      cases h
      exact qr_iret (Or.inl rfl) rfl rfl
    · refine qr_f hb rfl ?_
      change qm_E _ _ _ (10, [some (vR 1 0), some (vI a1), some (vI a2)], [], qp_H s x e, (0, 0)) _
      iterate 3 refine qm_E_next rfl ?_
      obtain ⟨hb, h⟩ := qr_inb h
      refine qr_aaload hb rfl rfl rfl ?_
      change qm_E _ _ _ (16, [some (vR 1 0), some (vI a1), some (vI a2)], [vR 14 (a2).toNatClampNeg], qp_H s x e, (0, 0)) _
      obtain ⟨q1, hq, h⟩ := qs_bd h
      refine qm_E_call rfl (qe16 (d + 0) hq) rfl ?_
      change qm_E _ _ _ (19, [some (vR 1 0), some (vI a1), some (vI a2)], [vI q1], qp_H s x e, (0, 0)) _
      rcases qr_cond h with ⟨hb, h⟩ | ⟨hb, h⟩
      · refine qr_t hb rfl ?_
        change qm_E _ _ _ (50, [some (vR 1 0), some (vI a1), some (vI a2)], [], qp_H s x e, (0, 0)) _
        iterate 2 refine qm_E_next rfl ?_
        exact ih h
      · refine qr_f hb rfl ?_
        change qm_E _ _ _ (22, [some (vR 1 0), some (vI a1), some (vI a2)], [], qp_H s x e, (0, 0)) _
        iterate 2 refine qm_E_next rfl ?_
        rcases qr_cond h with ⟨hb, h⟩ | ⟨hb, h⟩
        · refine qr_t hb rfl ?_
          change qm_E _ _ _ (48, [some (vR 1 0), some (vI a1), some (vI a2)], [], qp_H s x e, (0, 0)) _
          iterate 4 refine qm_E_next rfl ?_
          exact ih h
        · refine qr_f hb rfl ?_
          change qm_E _ _ _ (27, [some (vR 1 0), some (vI a1), some (vI a2)], [], qp_H s x e, (0, 0)) _
          iterate 3 refine qm_E_next rfl ?_
          obtain ⟨hb, h⟩ := qr_inb h
          refine qr_aaload hb rfl rfl rfl ?_
          change qm_E _ _ _ (33, [some (vR 1 0), some (vI a1), some (vI a2)], [vR 14 (a2).toNatClampNeg], qp_H s x e, (0, 0)) _
          iterate 4 refine qm_E_next rfl ?_
          obtain ⟨hb, h⟩ := qr_inb h
          refine qr_aaload hb rfl rfl rfl ?_
          change qm_E _ _ _ (42, [some (vR 1 0), some (vI a1), some (vI a2)], [vR 14 (a1).toNatClampNeg, vI (s 14 (a2).toNatClampNeg 3)], qp_H s x e, (0, 0)) _
          iterate 1 refine qm_E_next rfl ?_
          rcases qr_cond h with ⟨hb, h⟩ | ⟨hb, h⟩
          · refine qr_t hb rfl ?_
            change qm_E _ _ _ (50, [some (vR 1 0), some (vI a1), some (vI a2)], [], qp_H s x e, (0, 0)) _
            iterate 2 refine qm_E_next rfl ?_
            exact ih h
          · refine qr_f hb rfl ?_
            change qm_E _ _ _ (48, [some (vR 1 0), some (vI a1), some (vI a2)], [], qp_H s x e, (0, 0)) _
            iterate 4 refine qm_E_next rfl ?_
            exact ih h
def qf107 (s : qp_S) : Option (Int32) := qf107_4 4096 (-1 : Int32) (0 : Int32) s
theorem qe107 (d : Nat) {L : Nat} {xs : Nat → Int32} {x : Int64} {e : Nat → Nat}     {s : qp_S} {r : Int32} (h : qf107   s = some r) : qm_E (qz_ro L xs) (d + 1) 107 (0, qm_ent 107 [vR 1 0], [], qp_H s x e, (0, 0)) (qf_v r s x e) := by
  unfold qf107 at h
  iterate 4 refine qm_E_next rfl ?_
  exact qe107_4 d  h
/-! PeriodKernel step -/
def qf105_25  : Nat → Int32 → Int32 → qp_S → Option (Int32 × qp_S)
  | 0, _, _, _ => none
  | n + 1, a1, a2, s => (bif qm_cmp .ge a2 a1 then some (a1, s) else ((qf107  s).bind fun q3 => (bif qm_cmp .ne q3 (-1 : Int32) then (if qm_inb q3 8 = true then ((qf95 (q3).toNatClampNeg s).bind fun q4 => qf105_25  n a1 (a2 + (1 : Int32)) q4.2) else none) else some (a2, s))))
theorem qe105_25 (d : Nat) {L : Nat} {xs : Nat → Int32} {x : Int64} {e : Nat → Nat}   : ∀ {n : Nat} {u3 : Option qm_V} {a1 : Int32} {a2 : Int32} {s : qp_S} {r : Int32 × qp_S}, qf105_25  n a1 a2 s = some r → qm_E (qz_ro L xs) (d + 7) 105 (25, [some (vR 1 0), some (vI a1), some (vI a2), u3], [], qp_H s x e, (0, 0)) (qf_v r.1 r.2 x e) := by
  intro n
  induction n with
  | zero => intro u3 a1 a2 s r h; cases h
  | succ n ih =>
    intro u3 a1 a2 s r h
    unfold qf105_25 at h
    iterate 2 refine qm_E_next rfl ?_
    rcases qr_cond h with ⟨hb, h⟩ | ⟨hb, h⟩
    · refine qr_t hb rfl ?_
      change qm_E _ _ _ (57, [some (vR 1 0), some (vI a1), some (vI a2), u3], [], qp_H s x e, (0, 0)) _
      iterate 1 refine qm_E_next rfl ?_
      cases h
      exact qr_iret (Or.inl rfl) rfl rfl
    · refine qr_f hb rfl ?_
      change qm_E _ _ _ (30, [some (vR 1 0), some (vI a1), some (vI a2), u3], [], qp_H s x e, (0, 0)) _
      iterate 1 refine qm_E_next rfl ?_
      obtain ⟨q3, hq, h⟩ := qs_bd h
      refine qm_E_call rfl (qe107 (d + 5) hq) rfl ?_
      change qm_E _ _ _ (34, [some (vR 1 0), some (vI a1), some (vI a2), u3], [vI q3], qp_H s x e, (0, 0)) _
      iterate 3 refine qm_E_next rfl ?_
      rcases qr_cond h with ⟨hb, h⟩ | ⟨hb, h⟩
      · refine qr_t hb rfl ?_
        change qm_E _ _ _ (42, [some (vR 1 0), some (vI a1), some (vI a2), some (vI q3)], [], qp_H s x e, (0, 0)) _
        iterate 3 refine qm_E_next rfl ?_
        obtain ⟨hb, h⟩ := qr_inb h
        refine qr_aaload hb rfl rfl rfl ?_
        change qm_E _ _ _ (48, [some (vR 1 0), some (vI a1), some (vI a2), some (vI q3)], [vR 14 (q3).toNatClampNeg], qp_H s x e, (0, 0)) _
        obtain ⟨q4, hq, h⟩ := qs_bd h
        refine qm_E_call rfl (qe95 (d + 3) hq) rfl ?_
        change qm_E _ _ _ (51, [some (vR 1 0), some (vI a1), some (vI a2), some (vI q3)], [], qp_H q4.2 x e, (0, 0)) _
        iterate 2 refine qm_E_next rfl ?_
        exact ih h
      · refine qr_f hb rfl ?_
        change qm_E _ _ _ (40, [some (vR 1 0), some (vI a1), some (vI a2), some (vI q3)], [], qp_H s x e, (0, 0)) _
        iterate 1 refine qm_E_next rfl ?_
        cases h
        exact qr_iret (Or.inl rfl) rfl rfl
def qf105_16 (a1 : Int32) (b0 : Int32) (s : qp_S) : Option (Nat ⊕ (Int32 × qp_S)) := ((qf25 b0 s).bind fun z1 => match z1 with | .inl k => some (.inl k) | .inr q1 => ((qf106 s).bind fun z2 => match z2 with | .inl k => some (.inl k) | .inr q2 => (Option.map Sum.inr (qf105_25 4096 a1 (0 : Int32) s))))
theorem qe105_16 (d : Nat) {L : Nat} {xs : Nat → Int32} {x : Int64} {e : Nat → Nat}   {u2 : Option qm_V} {u3 : Option qm_V} {a1 : Int32} {b0 : Int32} {s : qp_S} {r : Nat ⊕ (Int32 × qp_S)} (h : qf105_16  a1 b0 s = some r) : qm_E (qz_ro L xs) (d + 7) 105 (16, [some (vR 1 0), some (vI a1), u2, u3], [vI b0], qp_H s x e, (0, 0)) (Sum.elim (fun k => qf_k k s x e) (fun v => qf_v v.1 v.2 x e) r) := by
  unfold qf105_16 at h
  obtain ⟨z1, hq, h⟩ := qs_bd h
  rcases z1 with k | q1
  · cases h
    exact qm_E_out rfl (qe25 (d + 0) hq) rfl
  · refine qm_E_call rfl (qe25 (d + 0) hq) rfl ?_
    change qm_E _ _ _ (19, [some (vR 1 0), some (vI a1), u2, u3], [], qp_H s x e, (0, 0)) _
    iterate 1 refine qm_E_next rfl ?_
    obtain ⟨z2, hq, h⟩ := qs_bd h
    rcases z2 with k | q2
    · cases h
      exact qm_E_out rfl (qe106 (d + 0) hq) rfl
    · refine qm_E_call rfl (qe106 (d + 0) hq) rfl ?_
      change qm_E _ _ _ (23, [some (vR 1 0), some (vI a1), u2, u3], [], qp_H s x e, (0, 0)) _
      iterate 2 refine qm_E_next rfl ?_
      obtain ⟨r0, h1, rfl⟩ := Option.map_eq_some_iff.mp h
      exact qe105_25 d h1
def qf105_15 (a1 : Int32) (s : qp_S) : Option (Nat ⊕ (Int32 × qp_S)) := qf105_16 a1 (0 : Int32) s
theorem qe105_15 (d : Nat) {L : Nat} {xs : Nat → Int32} {x : Int64} {e : Nat → Nat}   {u2 : Option qm_V} {u3 : Option qm_V} {a1 : Int32} {s : qp_S} {r : Nat ⊕ (Int32 × qp_S)} (h : qf105_15  a1 s = some r) : qm_E (qz_ro L xs) (d + 7) 105 (15, [some (vR 1 0), some (vI a1), u2, u3], [], qp_H s x e, (0, 0)) (Sum.elim (fun k => qf_k k s x e) (fun v => qf_v v.1 v.2 x e) r) := by
  unfold qf105_15 at h
  iterate 1 refine qm_E_next rfl ?_
  exact qe105_16 d  h
def qf105 (a1 : Int32) (s : qp_S) : Option (Nat ⊕ (Int32 × qp_S)) := (bif qm_cmp .lt a1 (0 : Int32) then qf105_15 a1 s else (bif qm_cmp .gt a1 (2000 : Int32) then qf105_15 a1 s else qf105_16 a1 (1 : Int32) s))
theorem qe105 (d : Nat) {L : Nat} {xs : Nat → Int32} {x : Int64} {e : Nat → Nat}    {a1 : Int32} {s : qp_S} {r : Nat ⊕ (Int32 × qp_S)} (h : qf105  a1 s = some r) : qm_E (qz_ro L xs) (d + 7) 105 (0, qm_ent 105 [vR 1 0, vI a1], [], qp_H s x e, (0, 0)) (Sum.elim (fun k => qf_k k s x e) (fun v => qf_v v.1 v.2 x e) r) := by
  unfold qf105 at h
  iterate 1 refine qm_E_next rfl ?_
  rcases qr_cond h with ⟨hb, h⟩ | ⟨hb, h⟩
  · refine qr_t hb rfl ?_
    exact qe105_15 d  h
  · refine qr_f hb rfl ?_
    change qm_E _ _ _ (4, [some (vR 1 0), some (vI a1), none, none], [], qp_H s x e, (0, 0)) _
    iterate 2 refine qm_E_next rfl ?_
    rcases qr_cond h with ⟨hb, h⟩ | ⟨hb, h⟩
    · refine qr_t hb rfl ?_
      exact qe105_15 d  h
    · refine qr_f hb rfl ?_
      change qm_E _ _ _ (11, [some (vR 1 0), some (vI a1), none, none], [], qp_H s x e, (0, 0)) _
      iterate 2 refine qm_E_next rfl ?_
      exact qe105_16 d  h
/-! PeriodKernel checkTimeMayGoOn -/
def qf110_21  : Nat → Int32 → qp_S → Option (Nat ⊕ (Int32))
  | 0, _, _ => none
  | n + 1, a1, s => (bif qm_cmp .ge a1 (8 : Int32) then some (.inr 0) else (if qm_inb a1 8 = true then ((qf16 (a1).toNatClampNeg s).bind fun q1 => (bif qm_cmp .eq q1 (0 : Int32) then qf110_21  n (a1 + (1 : Int32)) s else (if qm_inb a1 8 = true then (bif qm_cmp .ne (s 14 (a1).toNatClampNeg 3) ((s 1 0 9) + (1 : Int32)) then qf110_21  n (a1 + (1 : Int32)) s else some (.inl 72)) else none))) else none))
theorem qe110_21 (d : Nat) {L : Nat} {xs : Nat → Int32} {x : Int64} {e : Nat → Nat}   : ∀ {n : Nat}  {a1 : Int32} {s : qp_S} {r : Nat ⊕ (Int32)}, qf110_21  n a1 s = some r → qm_E (qz_ro L xs) (d + 6) 110 (21, [some (vR 1 0), some (vI a1)], [], qp_H s x e, (0, 0)) (Sum.elim (fun k => qf_k k s x e) (fun v => qf_u s x e) r) := by
  intro n
  induction n with
  | zero => intro  a1 s r h; cases h
  | succ n ih =>
    intro  a1 s r h
    unfold qf110_21 at h
    iterate 2 refine qm_E_next rfl ?_
    rcases qr_cond h with ⟨hb, h⟩ | ⟨hb, h⟩
    · refine qr_t hb rfl ?_
      change qm_E _ _ _ (73, [some (vR 1 0), some (vI a1)], [], qp_H s x e, (0, 0)) _
      cases h
      exact qr_ret rfl rfl rfl
    · refine qr_f hb rfl ?_
      change qm_E _ _ _ (27, [some (vR 1 0), some (vI a1)], [], qp_H s x e, (0, 0)) _
      iterate 3 refine qm_E_next rfl ?_
      obtain ⟨hb, h⟩ := qr_inb h
      refine qr_aaload hb rfl rfl rfl ?_
      change qm_E _ _ _ (33, [some (vR 1 0), some (vI a1)], [vR 14 (a1).toNatClampNeg], qp_H s x e, (0, 0)) _
      obtain ⟨q1, hq, h⟩ := qs_bd h
      refine qm_E_call rfl (qe16 (d + 5) hq) rfl ?_
      change qm_E _ _ _ (36, [some (vR 1 0), some (vI a1)], [vI q1], qp_H s x e, (0, 0)) _
      rcases qr_cond h with ⟨hb, h⟩ | ⟨hb, h⟩
      · refine qr_t hb rfl ?_
        change qm_E _ _ _ (67, [some (vR 1 0), some (vI a1)], [], qp_H s x e, (0, 0)) _
        iterate 2 refine qm_E_next rfl ?_
        exact ih h
      · refine qr_f hb rfl ?_
        change qm_E _ _ _ (39, [some (vR 1 0), some (vI a1)], [], qp_H s x e, (0, 0)) _
        iterate 3 refine qm_E_next rfl ?_
        obtain ⟨hb, h⟩ := qr_inb h
        refine qr_aaload hb rfl rfl rfl ?_
        change qm_E _ _ _ (45, [some (vR 1 0), some (vI a1)], [vR 14 (a1).toNatClampNeg], qp_H s x e, (0, 0)) _
        iterate 5 refine qm_E_next rfl ?_
        rcases qr_cond h with ⟨hb, h⟩ | ⟨hb, h⟩
        · refine qr_t hb rfl ?_
          change qm_E _ _ _ (67, [some (vR 1 0), some (vI a1)], [], qp_H s x e, (0, 0)) _
          iterate 2 refine qm_E_next rfl ?_
          exact ih h
        · refine qr_f hb rfl ?_
          change qm_E _ _ _ (57, [some (vR 1 0), some (vI a1)], [], qp_H s x e, (0, 0)) _
          cases h
          exact qr_thr rfl (by omega) rfl (by decide) rfl
def qf110 (s : qp_S) : Option (Nat ⊕ (Int32)) := (bif qm_cmp .lt (s 1 0 9) (1000000 : Int32) then qf110_21 4096 (0 : Int32) s else some (.inl 72))
theorem qe110 (d : Nat) {L : Nat} {xs : Nat → Int32} {x : Int64} {e : Nat → Nat}     {s : qp_S} {r : Nat ⊕ (Int32)} (h : qf110   s = some r) : qm_E (qz_ro L xs) (d + 6) 110 (0, qm_ent 110 [vR 1 0], [], qp_H s x e, (0, 0)) (Sum.elim (fun k => qf_k k s x e) (fun v => qf_u s x e) r) := by
  unfold qf110 at h
  iterate 3 refine qm_E_next rfl ?_
  rcases qr_cond h with ⟨hb, h⟩ | ⟨hb, h⟩
  · refine qr_t hb rfl ?_
    change qm_E _ _ _ (19, [some (vR 1 0), none], [], qp_H s x e, (0, 0)) _
    iterate 2 refine qm_E_next rfl ?_
    exact qe110_21 d  h
  · refine qr_f hb rfl ?_
    change qm_E _ _ _ (9, [some (vR 1 0), none], [], qp_H s x e, (0, 0)) _
    cases h
    exact qr_thr rfl (by omega) rfl (by decide) rfl
/-! PeriodKernel advance -/
def qf109 (s : qp_S) : Option (Nat ⊕ (Int32 × qp_S)) := ((qf106 s).bind fun z1 => match z1 with | .inl k => some (.inl k) | .inr q1 => ((qf110 s).bind fun z2 => match z2 with | .inl k => some (.inl k) | .inr q2 => ((qf76 (qp_up s 1 0 9 ((s 1 0 9) + (1 : Int32)))).bind fun q3 => some (.inr ((q3.2 1 0 9), q3.2)))))
theorem qe109 (d : Nat) {L : Nat} {xs : Nat → Int32} {x : Int64} {e : Nat → Nat}     {s : qp_S} {r : Nat ⊕ (Int32 × qp_S)} (h : qf109   s = some r) : qm_E (qz_ro L xs) (d + 7) 109 (0, qm_ent 109 [vR 1 0], [], qp_H s x e, (0, 0)) (Sum.elim (fun k => qf_k k s x e) (fun v => qf_v v.1 v.2 x e) r) := by
  unfold qf109 at h
  iterate 1 refine qm_E_next rfl ?_
  obtain ⟨z1, hq, h⟩ := qs_bd h
  rcases z1 with k | q1
  · cases h
    exact qm_E_out rfl (qe106 (d + 0) hq) rfl
  · refine qm_E_call rfl (qe106 (d + 0) hq) rfl ?_
    change qm_E _ _ _ (4, [some (vR 1 0)], [], qp_H s x e, (0, 0)) _
    iterate 1 refine qm_E_next rfl ?_
    obtain ⟨z2, hq, h⟩ := qs_bd h
    rcases z2 with k | q2
    · cases h
      exact qm_E_out rfl (qe110 (d + 0) hq) rfl
    · refine qm_E_call rfl (qe110 (d + 0) hq) rfl ?_
      change qm_E _ _ _ (8, [some (vR 1 0)], [], qp_H s x e, (0, 0)) _
      iterate 5 refine qm_E_next rfl ?_
      refine qr_put rfl rfl ?_
      change qm_E _ _ _ (18, [some (vR 1 0)], [], qp_H (qp_up s 1 0 9 ((s 1 0 9) + (1 : Int32))) x e, (0, 0)) _
      iterate 1 refine qm_E_next rfl ?_
      obtain ⟨q3, hq, h⟩ := qs_bd h
      refine qm_E_call rfl (qe76 (d + 2) hq) rfl ?_
      change qm_E _ _ _ (22, [some (vR 1 0)], [], qp_H q3.2 x e, (0, 0)) _
      iterate 2 refine qm_E_next rfl ?_
      cases h
      exact qr_iret (Or.inl rfl) rfl rfl
/-! PeriodKernel value -/
def qf112 (a1 : Int32) (s : qp_S) : Option (Nat ⊕ (Int32)) := ((qf24 a1 (16 : Int32) s).bind fun z1 => match z1 with | .inl k => some (.inl k) | .inr q1 => (if qm_inb a1 16 = true then some (.inr (s 21 (a1).toNatClampNeg 2)) else none))
theorem qe112 (d : Nat) {L : Nat} {xs : Nat → Int32} {x : Int64} {e : Nat → Nat}    {a1 : Int32} {s : qp_S} {r : Nat ⊕ (Int32)} (h : qf112  a1 s = some r) : qm_E (qz_ro L xs) (d + 7) 112 (0, qm_ent 112 [vR 1 0, vI a1], [], qp_H s x e, (0, 0)) (Sum.elim (fun k => qf_k k s x e) (fun v => qf_v v s x e) r) := by
  unfold qf112 at h
  iterate 2 refine qm_E_next rfl ?_
  obtain ⟨z1, hq, h⟩ := qs_bd h
  rcases z1 with k | q1
  · cases h
    exact qm_E_out rfl (qe24 (d + 0) hq) rfl
  · refine qm_E_call rfl (qe24 (d + 0) hq) rfl ?_
    change qm_E _ _ _ (6, [some (vR 1 0), some (vI a1)], [], qp_H s x e, (0, 0)) _
    iterate 3 refine qm_E_next rfl ?_
    obtain ⟨hb, h⟩ := qr_inb h
    refine qr_aaload hb rfl rfl rfl ?_
    change qm_E _ _ _ (12, [some (vR 1 0), some (vI a1)], [vR 21 (a1).toNatClampNeg], qp_H s x e, (0, 0)) _
    iterate 1 refine qm_E_next rfl ?_
    cases h
    exact qr_iret (Or.inl rfl) rfl rfl
/-! PeriodKernelModel thrown -/
def qf114 (s : qp_S) : Option (Int32) := some (s 30 0 0)
theorem qe114 (d : Nat) {L : Nat} {xs : Nat → Int32} {x : Int64} {e : Nat → Nat}     {s : qp_S} {r : Int32} (h : qf114   s = some r) : qm_E (qz_ro L xs) (d + 0) 114 (0, qm_ent 114 [vR 30 0], [], qp_H s x e, (0, 0)) (qf_v r s x e) := by
  unfold qf114 at h
  iterate 2 refine qm_E_next rfl ?_
  cases h
  exact qr_iret (Or.inl rfl) rfl rfl
/-! PeriodKernelModel in -/
def qf116 (a0 : Int32) (a1 : Int32) (a2 : Int32) (s : qp_S) : Option (Int32) := (bif qm_cmp .lt a0 a1 then some (0 : Int32) else (bif qm_cmp .gt a0 a2 then some (0 : Int32) else some (1 : Int32)))
theorem qe116 (d : Nat) {L : Nat} {xs : Nat → Int32} {x : Int64} {e : Nat → Nat}    {a0 : Int32} {a1 : Int32} {a2 : Int32} {s : qp_S} {r : Int32} (h : qf116  a0 a1 a2 s = some r) : qm_E (qz_ro L xs) (d + 0) 116 (0, qm_ent 116 [vI a0, vI a1, vI a2], [], qp_H s x e, (0, 0)) (qf_v r s x e) := by
  unfold qf116 at h
  iterate 2 refine qm_E_next rfl ?_
  rcases qr_cond h with ⟨hb, h⟩ | ⟨hb, h⟩
  · refine qr_t hb rfl ?_
    change qm_E _ _ _ (14, [some (vI a0), some (vI a1), some (vI a2)], [], qp_H s x e, (0, 0)) _
    iterate 1 refine qm_E_next rfl ?_
    cases h
    exact qr_iret (Or.inr ⟨rfl, Or.inl rfl⟩) rfl rfl
  · refine qr_f hb rfl ?_
    change qm_E _ _ _ (5, [some (vI a0), some (vI a1), some (vI a2)], [], qp_H s x e, (0, 0)) _
    iterate 2 refine qm_E_next rfl ?_
    rcases qr_cond h with ⟨hb, h⟩ | ⟨hb, h⟩
    · refine qr_t hb rfl ?_
      change qm_E _ _ _ (14, [some (vI a0), some (vI a1), some (vI a2)], [], qp_H s x e, (0, 0)) _
      iterate 1 refine qm_E_next rfl ?_
      cases h
      exact qr_iret (Or.inr ⟨rfl, Or.inl rfl⟩) rfl rfl
    · refine qr_f hb rfl ?_
      change qm_E _ _ _ (10, [some (vI a0), some (vI a1), some (vI a2)], [], qp_H s x e, (0, 0)) _
      iterate 2 refine qm_E_next rfl ?_
      cases h
      exact qr_iret (Or.inr ⟨rfl, Or.inr rfl⟩) rfl rfl
/-! PeriodKernelModel may -/
def qf117_29 (b1 : Int32) (s : qp_S) : Option (Int32 × qp_S) := (bif qm_cmp .ne ((qp_up s 30 0 0 b1) 30 0 0) (0 : Int32) then some ((0 : Int32), (qp_up s 30 0 0 b1)) else some ((1 : Int32), (qp_up s 30 0 0 b1)))
theorem qe117_29 (d : Nat) {L : Nat} {xs : Nat → Int32} {x : Int64} {e : Nat → Nat}   {u1 : Option qm_V} {u2 : Option qm_V} {b1 : Int32} {s : qp_S} {r : Int32 × qp_S} (h : qf117_29  b1 s = some r) : qm_E (qz_ro L xs) (d + 0) 117 (29, [some (vR 30 0), u1, u2], [vI b1, vR 30 0], qp_H s x e, (0, 0)) (qf_v r.1 r.2 x e) := by
  unfold qf117_29 at h
  refine qr_put rfl rfl ?_
  change qm_E _ _ _ (32, [some (vR 30 0), u1, u2], [], qp_H (qp_up s 30 0 0 b1) x e, (0, 0)) _
  iterate 2 refine qm_E_next rfl ?_
  rcases qr_cond h with ⟨hb, h⟩ | ⟨hb, h⟩
  · refine qr_t hb rfl ?_
    change qm_E _ _ _ (43, [some (vR 30 0), u1, u2], [], qp_H (qp_up s 30 0 0 b1) x e, (0, 0)) _
    iterate 1 refine qm_E_next rfl ?_
    cases h
    exact qr_iret (Or.inr ⟨rfl, Or.inl rfl⟩) rfl rfl
  · refine qr_f hb rfl ?_
    change qm_E _ _ _ (39, [some (vR 30 0), u1, u2], [], qp_H (qp_up s 30 0 0 b1) x e, (0, 0)) _
    iterate 2 refine qm_E_next rfl ?_
    cases h
    exact qr_iret (Or.inr ⟨rfl, Or.inr rfl⟩) rfl rfl
def qf117 (a1 : Int32) (a2 : Int32) (s : qp_S) : Option (Int32 × qp_S) := (bif qm_cmp .ne a1 (0 : Int32) then (bif qm_cmp .ne a2 (0 : Int32) then (bif qm_cmp .eq (s 30 0 20) (0 : Int32) then qf117_29 (0 : Int32) s else qf117_29 (3 : Int32) s) else qf117_29 (2 : Int32) s) else qf117_29 (1 : Int32) s)
theorem qe117 (d : Nat) {L : Nat} {xs : Nat → Int32} {x : Int64} {e : Nat → Nat}    {a1 : Int32} {a2 : Int32} {s : qp_S} {r : Int32 × qp_S} (h : qf117  a1 a2 s = some r) : qm_E (qz_ro L xs) (d + 0) 117 (0, qm_ent 117 [vR 30 0, vI a1, vI a2], [], qp_H s x e, (0, 0)) (qf_v r.1 r.2 x e) := by
  unfold qf117 at h
  iterate 2 refine qm_E_next rfl ?_
  rcases qr_cond h with ⟨hb, h⟩ | ⟨hb, h⟩
  · refine qr_t hb rfl ?_
    change qm_E _ _ _ (9, [some (vR 30 0), some (vI a1), some (vI a2)], [vR 30 0], qp_H s x e, (0, 0)) _
    iterate 1 refine qm_E_next rfl ?_
    rcases qr_cond h with ⟨hb, h⟩ | ⟨hb, h⟩
    · refine qr_t hb rfl ?_
      change qm_E _ _ _ (17, [some (vR 30 0), some (vI a1), some (vI a2)], [vR 30 0], qp_H s x e, (0, 0)) _
      iterate 2 refine qm_E_next rfl ?_
      rcases qr_cond h with ⟨hb, h⟩ | ⟨hb, h⟩
      · refine qr_t hb rfl ?_
        change qm_E _ _ _ (28, [some (vR 30 0), some (vI a1), some (vI a2)], [vR 30 0], qp_H s x e, (0, 0)) _
        iterate 1 refine qm_E_next rfl ?_
        exact qe117_29 d  h
      · refine qr_f hb rfl ?_
        change qm_E _ _ _ (24, [some (vR 30 0), some (vI a1), some (vI a2)], [vR 30 0], qp_H s x e, (0, 0)) _
        iterate 2 refine qm_E_next rfl ?_
        exact qe117_29 d  h
    · refine qr_f hb rfl ?_
      change qm_E _ _ _ (13, [some (vR 30 0), some (vI a1), some (vI a2)], [vR 30 0], qp_H s x e, (0, 0)) _
      iterate 2 refine qm_E_next rfl ?_
      exact qe117_29 d  h
  · refine qr_f hb rfl ?_
    change qm_E _ _ _ (5, [some (vR 30 0), some (vI a1), some (vI a2)], [vR 30 0], qp_H s x e, (0, 0)) _
    iterate 2 refine qm_E_next rfl ?_
    exact qe117_29 d  h
/-! PeriodKernelModel task -/
def qf115 (a1 : Int32) (a2 : Int32) (s : qp_S) : Option (Int32 × qp_S) := ((qf116 a1 (0 : Int32) (7 : Int32) s).bind fun q1 => ((qf116 a2 (1 : Int32) (200 : Int32) s).bind fun q2 => ((qf117 q1 q2 s).bind fun q3 => (bif qm_cmp .eq (q3.1) (0 : Int32) then some (0, q3.2) else (if qm_inb a1 8 = true then some (0, (qp_up q3.2 31 0 (a1).toNatClampNeg a2)) else none)))))
theorem qe115 (d : Nat) {L : Nat} {xs : Nat → Int32} {x : Int64} {e : Nat → Nat}    {a1 : Int32} {a2 : Int32} {s : qp_S} {r : Int32 × qp_S} (h : qf115  a1 a2 s = some r) : qm_E (qz_ro L xs) (d + 1) 115 (0, qm_ent 115 [vR 30 0, vI a1, vI a2], [], qp_H s x e, (0, 0)) (qf_u r.2 x e) := by
  unfold qf115 at h
  iterate 4 refine qm_E_next rfl ?_
  obtain ⟨q1, hq, h⟩ := qs_bd h
  refine qm_E_call rfl (qe116 (d + 0) hq) rfl ?_
  change qm_E _ _ _ (8, [some (vR 30 0), some (vI a1), some (vI a2)], [vI q1, vR 30 0], qp_H s x e, (0, 0)) _
  iterate 3 refine qm_E_next rfl ?_
  obtain ⟨q2, hq, h⟩ := qs_bd h
  refine qm_E_call rfl (qe116 (d + 0) hq) rfl ?_
  change qm_E _ _ _ (16, [some (vR 30 0), some (vI a1), some (vI a2)], [vI q2, vI q1, vR 30 0], qp_H s x e, (0, 0)) _
  obtain ⟨q3, hq, h⟩ := qs_bd h
  refine qm_E_call rfl (qe117 (d + 0) hq) rfl ?_
  change qm_E _ _ _ (19, [some (vR 30 0), some (vI a1), some (vI a2)], [vI (q3.1)], qp_H q3.2 x e, (0, 0)) _
  rcases qr_cond h with ⟨hb, h⟩ | ⟨hb, h⟩
  · refine qr_t hb rfl ?_
    change qm_E _ _ _ (29, [some (vR 30 0), some (vI a1), some (vI a2)], [], qp_H q3.2 x e, (0, 0)) _
    cases h
    exact qr_ret rfl rfl rfl
  · refine qr_f hb rfl ?_
    change qm_E _ _ _ (22, [some (vR 30 0), some (vI a1), some (vI a2)], [], qp_H q3.2 x e, (0, 0)) _
    iterate 4 refine qm_E_next rfl ?_
    obtain ⟨hb, h⟩ := qr_inb h
    refine qr_iastore hb rfl rfl rfl rfl rfl ?_
    change qm_E _ _ _ (29, [some (vR 30 0), some (vI a1), some (vI a2)], [], qp_H (qp_up q3.2 31 0 (a1).toNatClampNeg a2) x e, (0, 0)) _
    cases h
    exact qr_ret rfl rfl rfl
/-! PeriodKernelModel code -/
def qf118_30 (a1 : Int32) (a2 : Int32) (b1 : Int32) (b2 : Int32) (s : qp_S) : Option (Int32 × qp_S) := ((qf117 b1 b2 s).bind fun q2 => (bif qm_cmp .ne (q2.1) (0 : Int32) then (if qm_inb a1 8 = true then (if qm_inb (((32 : Int32) * a1) + (q2.2 33 0 (a1).toNatClampNeg)) 256 = true then (if qm_inb a1 8 = true then (if qm_inb a1 8 = true then (if qm_inb a1 8 = true then some (((qp_up (qp_up q2.2 32 0 ((((32 : Int32) * a1) + (q2.2 33 0 (a1).toNatClampNeg))).toNatClampNeg a2) 33 0 (a1).toNatClampNeg (((qp_up q2.2 32 0 ((((32 : Int32) * a1) + (q2.2 33 0 (a1).toNatClampNeg))).toNatClampNeg a2) 33 0 (a1).toNatClampNeg) + (1 : Int32))) 33 0 (a1).toNatClampNeg), (qp_up (qp_up q2.2 32 0 ((((32 : Int32) * a1) + (q2.2 33 0 (a1).toNatClampNeg))).toNatClampNeg a2) 33 0 (a1).toNatClampNeg (((qp_up q2.2 32 0 ((((32 : Int32) * a1) + (q2.2 33 0 (a1).toNatClampNeg))).toNatClampNeg a2) 33 0 (a1).toNatClampNeg) + (1 : Int32)))) else none) else none) else none) else none) else none) else some ((0 : Int32), q2.2)))
theorem qe118_30 (d : Nat) {L : Nat} {xs : Nat → Int32} {x : Int64} {e : Nat → Nat}   {u3 : Option qm_V} {a1 : Int32} {a2 : Int32} {b1 : Int32} {b2 : Int32} {s : qp_S} {r : Int32 × qp_S} (h : qf118_30  a1 a2 b1 b2 s = some r) : qm_E (qz_ro L xs) (d + 1) 118 (30, [some (vR 30 0), some (vI a1), some (vI a2), u3], [vI b2, vI b1, vR 30 0], qp_H s x e, (0, 0)) (qf_v r.1 r.2 x e) := by
  unfold qf118_30 at h
  obtain ⟨q2, hq, h⟩ := qs_bd h
  refine qm_E_call rfl (qe117 (d + 0) hq) rfl ?_
  change qm_E _ _ _ (33, [some (vR 30 0), some (vI a1), some (vI a2), u3], [vI (q2.1)], qp_H q2.2 x e, (0, 0)) _
  rcases qr_cond h with ⟨hb, h⟩ | ⟨hb, h⟩
  · refine qr_t hb rfl ?_
    change qm_E _ _ _ (38, [some (vR 30 0), some (vI a1), some (vI a2), u3], [], qp_H q2.2 x e, (0, 0)) _
    iterate 6 refine qm_E_next rfl ?_
    change qm_E _ _ _ (47, [some (vR 30 0), some (vI a1), some (vI a2), u3], [vR 30 0, vI ((32 : Int32) * a1), vR 32 0], qp_H q2.2 x e, (0, 0)) _
    iterate 2 refine qm_E_next rfl ?_
    obtain ⟨hb, h⟩ := qr_inb h
    refine qr_iaload hb rfl rfl rfl rfl ?_
    change qm_E _ _ _ (52, [some (vR 30 0), some (vI a1), some (vI a2), u3], [vI (q2.2 33 0 (a1).toNatClampNeg), vI ((32 : Int32) * a1), vR 32 0], qp_H q2.2 x e, (0, 0)) _
    iterate 2 refine qm_E_next rfl ?_
    obtain ⟨hb, h⟩ := qr_inb h
    refine qr_iastore hb rfl rfl rfl rfl rfl ?_
    change qm_E _ _ _ (55, [some (vR 30 0), some (vI a1), some (vI a2), u3], [], qp_H (qp_up q2.2 32 0 ((((32 : Int32) * a1) + (q2.2 33 0 (a1).toNatClampNeg))).toNatClampNeg a2) x e, (0, 0)) _
    iterate 4 refine qm_E_next rfl ?_
    obtain ⟨hb, h⟩ := qr_inb h
    refine qr_iaload hb rfl rfl rfl rfl ?_
    change qm_E _ _ _ (62, [some (vR 30 0), some (vI a1), some (vI a2), u3], [vI ((qp_up q2.2 32 0 ((((32 : Int32) * a1) + (q2.2 33 0 (a1).toNatClampNeg))).toNatClampNeg a2) 33 0 (a1).toNatClampNeg), vI a1, vR 33 0], qp_H (qp_up q2.2 32 0 ((((32 : Int32) * a1) + (q2.2 33 0 (a1).toNatClampNeg))).toNatClampNeg a2) x e, (0, 0)) _
    iterate 2 refine qm_E_next rfl ?_
    obtain ⟨hb, h⟩ := qr_inb h
    refine qr_iastore hb rfl rfl rfl rfl rfl ?_
    change qm_E _ _ _ (65, [some (vR 30 0), some (vI a1), some (vI a2), u3], [], qp_H (qp_up (qp_up q2.2 32 0 ((((32 : Int32) * a1) + (q2.2 33 0 (a1).toNatClampNeg))).toNatClampNeg a2) 33 0 (a1).toNatClampNeg (((qp_up q2.2 32 0 ((((32 : Int32) * a1) + (q2.2 33 0 (a1).toNatClampNeg))).toNatClampNeg a2) 33 0 (a1).toNatClampNeg) + (1 : Int32))) x e, (0, 0)) _
    iterate 3 refine qm_E_next rfl ?_
    obtain ⟨hb, h⟩ := qr_inb h
    refine qr_iaload hb rfl rfl rfl rfl ?_
    change qm_E _ _ _ (71, [some (vR 30 0), some (vI a1), some (vI a2), u3], [vI ((qp_up (qp_up q2.2 32 0 ((((32 : Int32) * a1) + (q2.2 33 0 (a1).toNatClampNeg))).toNatClampNeg a2) 33 0 (a1).toNatClampNeg (((qp_up q2.2 32 0 ((((32 : Int32) * a1) + (q2.2 33 0 (a1).toNatClampNeg))).toNatClampNeg a2) 33 0 (a1).toNatClampNeg) + (1 : Int32))) 33 0 (a1).toNatClampNeg)], qp_H (qp_up (qp_up q2.2 32 0 ((((32 : Int32) * a1) + (q2.2 33 0 (a1).toNatClampNeg))).toNatClampNeg a2) 33 0 (a1).toNatClampNeg (((qp_up q2.2 32 0 ((((32 : Int32) * a1) + (q2.2 33 0 (a1).toNatClampNeg))).toNatClampNeg a2) 33 0 (a1).toNatClampNeg) + (1 : Int32))) x e, (0, 0)) _
    cases h
    exact qr_iret (Or.inl rfl) rfl rfl
  · refine qr_f hb rfl ?_
    change qm_E _ _ _ (36, [some (vR 30 0), some (vI a1), some (vI a2), u3], [], qp_H q2.2 x e, (0, 0)) _
    iterate 1 refine qm_E_next rfl ?_
    cases h
    exact qr_iret (Or.inl rfl) rfl rfl
def qf118_25 (a1 : Int32) (a2 : Int32) (b1 : Int32) (s : qp_S) : Option (Int32 × qp_S) := qf118_30 a1 a2 b1 (1 : Int32) s
theorem qe118_25 (d : Nat) {L : Nat} {xs : Nat → Int32} {x : Int64} {e : Nat → Nat}   {u3 : Option qm_V} {a1 : Int32} {a2 : Int32} {b1 : Int32} {s : qp_S} {r : Int32 × qp_S} (h : qf118_25  a1 a2 b1 s = some r) : qm_E (qz_ro L xs) (d + 1) 118 (25, [some (vR 30 0), some (vI a1), some (vI a2), u3], [vI b1, vR 30 0], qp_H s x e, (0, 0)) (qf_v r.1 r.2 x e) := by
  unfold qf118_25 at h
  iterate 2 refine qm_E_next rfl ?_
  exact qe118_30 d  h
def qf118 (a1 : Int32) (a2 : Int32) (s : qp_S) : Option (Int32 × qp_S) := ((qf116 a1 (0 : Int32) (7 : Int32) s).bind fun q1 => (bif qm_cmp .eq q1 (0 : Int32) then qf118_25 a1 a2 q1 s else (if qm_inb a1 8 = true then (bif qm_cmp .ge (s 33 0 (a1).toNatClampNeg) (32 : Int32) then qf118_30 a1 a2 q1 (0 : Int32) s else qf118_25 a1 a2 q1 s) else none)))
theorem qe118 (d : Nat) {L : Nat} {xs : Nat → Int32} {x : Int64} {e : Nat → Nat}    {a1 : Int32} {a2 : Int32} {s : qp_S} {r : Int32 × qp_S} (h : qf118  a1 a2 s = some r) : qm_E (qz_ro L xs) (d + 1) 118 (0, qm_ent 118 [vR 30 0, vI a1, vI a2], [], qp_H s x e, (0, 0)) (qf_v r.1 r.2 x e) := by
  unfold qf118 at h
  iterate 3 refine qm_E_next rfl ?_
  obtain ⟨q1, hq, h⟩ := qs_bd h
  refine qm_E_call rfl (qe116 (d + 0) hq) rfl ?_
  change qm_E _ _ _ (7, [some (vR 30 0), some (vI a1), some (vI a2), none], [vI q1], qp_H s x e, (0, 0)) _
  iterate 4 refine qm_E_next rfl ?_
  rcases qr_cond h with ⟨hb, h⟩ | ⟨hb, h⟩
  · refine qr_t hb rfl ?_
    exact qe118_25 d  h
  · refine qr_f hb rfl ?_
    change qm_E _ _ _ (14, [some (vR 30 0), some (vI a1), some (vI a2), some (vI q1)], [vI q1, vR 30 0], qp_H s x e, (0, 0)) _
    iterate 3 refine qm_E_next rfl ?_
    obtain ⟨hb, h⟩ := qr_inb h
    refine qr_iaload hb rfl rfl rfl rfl ?_
    change qm_E _ _ _ (20, [some (vR 30 0), some (vI a1), some (vI a2), some (vI q1)], [vI (s 33 0 (a1).toNatClampNeg), vI q1, vR 30 0], qp_H s x e, (0, 0)) _
    iterate 1 refine qm_E_next rfl ?_
    rcases qr_cond h with ⟨hb, h⟩ | ⟨hb, h⟩
    · refine qr_t hb rfl ?_
      change qm_E _ _ _ (29, [some (vR 30 0), some (vI a1), some (vI a2), some (vI q1)], [vI q1, vR 30 0], qp_H s x e, (0, 0)) _
      iterate 1 refine qm_E_next rfl ?_
      exact qe118_30 d  h
    · refine qr_f hb rfl ?_
      exact qe118_25 d  h
/-! PeriodKernelModel port -/
def qf119 (a1 : Int32) (a2 : Int32) (a3 : Int32) (a4 : Int32) (s : qp_S) : Option (Int32 × qp_S) := ((qf116 a1 (0 : Int32) (15 : Int32) s).bind fun q1 => ((qf116 a4 a2 a3 s).bind fun q2 => ((qf117 q1 q2 s).bind fun q3 => (bif qm_cmp .ne (q3.1) (0 : Int32) then (if qm_inb a1 16 = true then (if qm_inb a1 16 = true then (if qm_inb a1 16 = true then some (0, (qp_up (qp_up (qp_up q3.2 38 0 (a1).toNatClampNeg a2) 39 0 (a1).toNatClampNeg a3) 40 0 (a1).toNatClampNeg a4)) else none) else none) else none) else some (0, q3.2)))))
theorem qe119 (d : Nat) {L : Nat} {xs : Nat → Int32} {x : Int64} {e : Nat → Nat}    {a1 : Int32} {a2 : Int32} {a3 : Int32} {a4 : Int32} {s : qp_S} {r : Int32 × qp_S} (h : qf119  a1 a2 a3 a4 s = some r) : qm_E (qz_ro L xs) (d + 1) 119 (0, qm_ent 119 [vR 30 0, vI a1, vI a2, vI a3, vI a4], [], qp_H s x e, (0, 0)) (qf_u r.2 x e) := by
  unfold qf119 at h
  iterate 4 refine qm_E_next rfl ?_
  obtain ⟨q1, hq, h⟩ := qs_bd h
  refine qm_E_call rfl (qe116 (d + 0) hq) rfl ?_
  change qm_E _ _ _ (8, [some (vR 30 0), some (vI a1), some (vI a2), some (vI a3), some (vI a4)], [vI q1, vR 30 0], qp_H s x e, (0, 0)) _
  iterate 3 refine qm_E_next rfl ?_
  obtain ⟨q2, hq, h⟩ := qs_bd h
  refine qm_E_call rfl (qe116 (d + 0) hq) rfl ?_
  change qm_E _ _ _ (15, [some (vR 30 0), some (vI a1), some (vI a2), some (vI a3), some (vI a4)], [vI q2, vI q1, vR 30 0], qp_H s x e, (0, 0)) _
  obtain ⟨q3, hq, h⟩ := qs_bd h
  refine qm_E_call rfl (qe117 (d + 0) hq) rfl ?_
  change qm_E _ _ _ (18, [some (vR 30 0), some (vI a1), some (vI a2), some (vI a3), some (vI a4)], [vI (q3.1)], qp_H q3.2 x e, (0, 0)) _
  rcases qr_cond h with ⟨hb, h⟩ | ⟨hb, h⟩
  · refine qr_t hb rfl ?_
    change qm_E _ _ _ (22, [some (vR 30 0), some (vI a1), some (vI a2), some (vI a3), some (vI a4)], [], qp_H q3.2 x e, (0, 0)) _
    iterate 4 refine qm_E_next rfl ?_
    obtain ⟨hb, h⟩ := qr_inb h
    refine qr_iastore hb rfl rfl rfl rfl rfl ?_
    change qm_E _ _ _ (29, [some (vR 30 0), some (vI a1), some (vI a2), some (vI a3), some (vI a4)], [], qp_H (qp_up q3.2 38 0 (a1).toNatClampNeg a2) x e, (0, 0)) _
    iterate 4 refine qm_E_next rfl ?_
    obtain ⟨hb, h⟩ := qr_inb h
    refine qr_iastore hb rfl rfl rfl rfl rfl ?_
    change qm_E _ _ _ (36, [some (vR 30 0), some (vI a1), some (vI a2), some (vI a3), some (vI a4)], [], qp_H (qp_up (qp_up q3.2 38 0 (a1).toNatClampNeg a2) 39 0 (a1).toNatClampNeg a3) x e, (0, 0)) _
    iterate 4 refine qm_E_next rfl ?_
    obtain ⟨hb, h⟩ := qr_inb h
    refine qr_iastore hb rfl rfl rfl rfl rfl ?_
    change qm_E _ _ _ (44, [some (vR 30 0), some (vI a1), some (vI a2), some (vI a3), some (vI a4)], [], qp_H (qp_up (qp_up (qp_up q3.2 38 0 (a1).toNatClampNeg a2) 39 0 (a1).toNatClampNeg a3) 40 0 (a1).toNatClampNeg a4) x e, (0, 0)) _
    cases h
    exact qr_ret rfl rfl rfl
  · refine qr_f hb rfl ?_
    change qm_E _ _ _ (21, [some (vR 30 0), some (vI a1), some (vI a2), some (vI a3), some (vI a4)], [], qp_H q3.2 x e, (0, 0)) _
    cases h
    exact qr_ret rfl rfl rfl
/-! PeriodKernelModel wire -/
def qf120_35 (a1 : Int32) (a2 : Int32) (a3 : Int32) (a4 : Int32) (b1 : Int32) (s : qp_S) : Option (Int32 × qp_S) := ((qf116 a4 (-1 : Int32) (1 : Int32) s).bind fun q4 => ((qf117 b1 q4 s).bind fun q5 => (bif qm_cmp .ne (q5.1) (0 : Int32) then (if qm_inb (((6 : Int32) * a1) + a2) 48 = true then (if qm_inb (((6 : Int32) * a1) + a2) 48 = true then (bif qm_cmp .ne a4 (1 : Int32) then (if qm_inb (((6 : Int32) * a1) + a2) 48 = true then some (0, (qp_up (qp_up (qp_up q5.2 34 0 ((((6 : Int32) * a1) + a2)).toNatClampNeg a4) 35 0 ((((6 : Int32) * a1) + a2)).toNatClampNeg a3) 36 0 ((((6 : Int32) * a1) + a2)).toNatClampNeg (0 : Int32))) else none) else (if qm_inb a3 16 = true then (if qm_inb (((6 : Int32) * a1) + a2) 48 = true then some (0, (qp_up (qp_up (qp_up q5.2 34 0 ((((6 : Int32) * a1) + a2)).toNatClampNeg a4) 35 0 ((((6 : Int32) * a1) + a2)).toNatClampNeg a3) 36 0 ((((6 : Int32) * a1) + a2)).toNatClampNeg ((qp_up (qp_up q5.2 34 0 ((((6 : Int32) * a1) + a2)).toNatClampNeg a4) 35 0 ((((6 : Int32) * a1) + a2)).toNatClampNeg a3) 40 0 (a3).toNatClampNeg))) else none) else none)) else none) else none) else some (0, q5.2))))
theorem qe120_35 (d : Nat) {L : Nat} {xs : Nat → Int32} {x : Int64} {e : Nat → Nat}   {u5 : Option qm_V} {a1 : Int32} {a2 : Int32} {a3 : Int32} {a4 : Int32} {b1 : Int32} {s : qp_S} {r : Int32 × qp_S} (h : qf120_35  a1 a2 a3 a4 b1 s = some r) : qm_E (qz_ro L xs) (d + 1) 120 (35, [some (vR 30 0), some (vI a1), some (vI a2), some (vI a3), some (vI a4), u5], [vI b1, vR 30 0], qp_H s x e, (0, 0)) (qf_u r.2 x e) := by
  unfold qf120_35 at h
  iterate 3 refine qm_E_next rfl ?_
  obtain ⟨q4, hq, h⟩ := qs_bd h
  refine qm_E_call rfl (qe116 (d + 0) hq) rfl ?_
  change qm_E _ _ _ (42, [some (vR 30 0), some (vI a1), some (vI a2), some (vI a3), some (vI a4), u5], [vI q4, vI b1, vR 30 0], qp_H s x e, (0, 0)) _
  obtain ⟨q5, hq, h⟩ := qs_bd h
  refine qm_E_call rfl (qe117 (d + 0) hq) rfl ?_
  change qm_E _ _ _ (45, [some (vR 30 0), some (vI a1), some (vI a2), some (vI a3), some (vI a4), u5], [vI (q5.1)], qp_H q5.2 x e, (0, 0)) _
  rcases qr_cond h with ⟨hb, h⟩ | ⟨hb, h⟩
  · refine qr_t hb rfl ?_
    change qm_E _ _ _ (49, [some (vR 30 0), some (vI a1), some (vI a2), some (vI a3), some (vI a4), u5], [], qp_H q5.2 x e, (0, 0)) _
    iterate 6 refine qm_E_next rfl ?_
    change qm_E _ _ _ (57, [some (vR 30 0), some (vI a1), some (vI a2), some (vI a3), some (vI a4), some (vI (((6 : Int32) * a1) + a2))], [], qp_H q5.2 x e, (0, 0)) _
    iterate 4 refine qm_E_next rfl ?_
    obtain ⟨hb, h⟩ := qr_inb h
    refine qr_iastore hb rfl rfl rfl rfl rfl ?_
    change qm_E _ _ _ (66, [some (vR 30 0), some (vI a1), some (vI a2), some (vI a3), some (vI a4), some (vI (((6 : Int32) * a1) + a2))], [], qp_H (qp_up q5.2 34 0 ((((6 : Int32) * a1) + a2)).toNatClampNeg a4) x e, (0, 0)) _
    iterate 4 refine qm_E_next rfl ?_
    obtain ⟨hb, h⟩ := qr_inb h
    refine qr_iastore hb rfl rfl rfl rfl rfl ?_
    change qm_E _ _ _ (74, [some (vR 30 0), some (vI a1), some (vI a2), some (vI a3), some (vI a4), some (vI (((6 : Int32) * a1) + a2))], [], qp_H (qp_up (qp_up q5.2 34 0 ((((6 : Int32) * a1) + a2)).toNatClampNeg a4) 35 0 ((((6 : Int32) * a1) + a2)).toNatClampNeg a3) x e, (0, 0)) _
    iterate 5 refine qm_E_next rfl ?_
    rcases qr_cond h with ⟨hb, h⟩ | ⟨hb, h⟩
    · refine qr_t hb rfl ?_
      change qm_E _ _ _ (95, [some (vR 30 0), some (vI a1), some (vI a2), some (vI a3), some (vI a4), some (vI (((6 : Int32) * a1) + a2))], [vI (((6 : Int32) * a1) + a2), vR 36 0], qp_H (qp_up (qp_up q5.2 34 0 ((((6 : Int32) * a1) + a2)).toNatClampNeg a4) 35 0 ((((6 : Int32) * a1) + a2)).toNatClampNeg a3) x e, (0, 0)) _
      iterate 1 refine qm_E_next rfl ?_
      obtain ⟨hb, h⟩ := qr_inb h
      refine qr_iastore hb rfl rfl rfl rfl rfl ?_
      change qm_E _ _ _ (97, [some (vR 30 0), some (vI a1), some (vI a2), some (vI a3), some (vI a4), some (vI (((6 : Int32) * a1) + a2))], [], qp_H (qp_up (qp_up (qp_up q5.2 34 0 ((((6 : Int32) * a1) + a2)).toNatClampNeg a4) 35 0 ((((6 : Int32) * a1) + a2)).toNatClampNeg a3) 36 0 ((((6 : Int32) * a1) + a2)).toNatClampNeg (0 : Int32)) x e, (0, 0)) _
      cases h
      exact qr_ret rfl rfl rfl
    · refine qr_f hb rfl ?_
      change qm_E _ _ _ (86, [some (vR 30 0), some (vI a1), some (vI a2), some (vI a3), some (vI a4), some (vI (((6 : Int32) * a1) + a2))], [vI (((6 : Int32) * a1) + a2), vR 36 0], qp_H (qp_up (qp_up q5.2 34 0 ((((6 : Int32) * a1) + a2)).toNatClampNeg a4) 35 0 ((((6 : Int32) * a1) + a2)).toNatClampNeg a3) x e, (0, 0)) _
      iterate 3 refine qm_E_next rfl ?_
      obtain ⟨hb, h⟩ := qr_inb h
      refine qr_iaload hb rfl rfl rfl rfl ?_
      change qm_E _ _ _ (92, [some (vR 30 0), some (vI a1), some (vI a2), some (vI a3), some (vI a4), some (vI (((6 : Int32) * a1) + a2))], [vI ((qp_up (qp_up q5.2 34 0 ((((6 : Int32) * a1) + a2)).toNatClampNeg a4) 35 0 ((((6 : Int32) * a1) + a2)).toNatClampNeg a3) 40 0 (a3).toNatClampNeg), vI (((6 : Int32) * a1) + a2), vR 36 0], qp_H (qp_up (qp_up q5.2 34 0 ((((6 : Int32) * a1) + a2)).toNatClampNeg a4) 35 0 ((((6 : Int32) * a1) + a2)).toNatClampNeg a3) x e, (0, 0)) _
      iterate 1 refine qm_E_next rfl ?_
      obtain ⟨hb, h⟩ := qr_inb h
      refine qr_iastore hb rfl rfl rfl rfl rfl ?_
      change qm_E _ _ _ (97, [some (vR 30 0), some (vI a1), some (vI a2), some (vI a3), some (vI a4), some (vI (((6 : Int32) * a1) + a2))], [], qp_H (qp_up (qp_up (qp_up q5.2 34 0 ((((6 : Int32) * a1) + a2)).toNatClampNeg a4) 35 0 ((((6 : Int32) * a1) + a2)).toNatClampNeg a3) 36 0 ((((6 : Int32) * a1) + a2)).toNatClampNeg ((qp_up (qp_up q5.2 34 0 ((((6 : Int32) * a1) + a2)).toNatClampNeg a4) 35 0 ((((6 : Int32) * a1) + a2)).toNatClampNeg a3) 40 0 (a3).toNatClampNeg)) x e, (0, 0)) _
      cases h
      exact qr_ret rfl rfl rfl
  · refine qr_f hb rfl ?_
    change qm_E _ _ _ (48, [some (vR 30 0), some (vI a1), some (vI a2), some (vI a3), some (vI a4), u5], [], qp_H q5.2 x e, (0, 0)) _
    cases h
    exact qr_ret rfl rfl rfl
def qf120_34 (a1 : Int32) (a2 : Int32) (a3 : Int32) (a4 : Int32) (s : qp_S) : Option (Int32 × qp_S) := qf120_35 a1 a2 a3 a4 (0 : Int32) s
theorem qe120_34 (d : Nat) {L : Nat} {xs : Nat → Int32} {x : Int64} {e : Nat → Nat}   {u5 : Option qm_V} {a1 : Int32} {a2 : Int32} {a3 : Int32} {a4 : Int32} {s : qp_S} {r : Int32 × qp_S} (h : qf120_34  a1 a2 a3 a4 s = some r) : qm_E (qz_ro L xs) (d + 1) 120 (34, [some (vR 30 0), some (vI a1), some (vI a2), some (vI a3), some (vI a4), u5], [vR 30 0], qp_H s x e, (0, 0)) (qf_u r.2 x e) := by
  unfold qf120_34 at h
  iterate 1 refine qm_E_next rfl ?_
  exact qe120_35 d  h
def qf120 (a1 : Int32) (a2 : Int32) (a3 : Int32) (a4 : Int32) (s : qp_S) : Option (Int32 × qp_S) := ((qf116 a1 (0 : Int32) (7 : Int32) s).bind fun q1 => (bif qm_cmp .eq q1 (0 : Int32) then qf120_34 a1 a2 a3 a4 s else ((qf116 a2 (0 : Int32) (5 : Int32) s).bind fun q2 => (bif qm_cmp .eq q2 (0 : Int32) then qf120_34 a1 a2 a3 a4 s else ((qf116 a3 (0 : Int32) (15 : Int32) s).bind fun q3 => (bif qm_cmp .eq q3 (0 : Int32) then qf120_34 a1 a2 a3 a4 s else qf120_35 a1 a2 a3 a4 (1 : Int32) s))))))
theorem qe120 (d : Nat) {L : Nat} {xs : Nat → Int32} {x : Int64} {e : Nat → Nat}    {a1 : Int32} {a2 : Int32} {a3 : Int32} {a4 : Int32} {s : qp_S} {r : Int32 × qp_S} (h : qf120  a1 a2 a3 a4 s = some r) : qm_E (qz_ro L xs) (d + 1) 120 (0, qm_ent 120 [vR 30 0, vI a1, vI a2, vI a3, vI a4], [], qp_H s x e, (0, 0)) (qf_u r.2 x e) := by
  unfold qf120 at h
  iterate 4 refine qm_E_next rfl ?_
  obtain ⟨q1, hq, h⟩ := qs_bd h
  refine qm_E_call rfl (qe116 (d + 0) hq) rfl ?_
  change qm_E _ _ _ (8, [some (vR 30 0), some (vI a1), some (vI a2), some (vI a3), some (vI a4), none], [vI q1, vR 30 0], qp_H s x e, (0, 0)) _
  rcases qr_cond h with ⟨hb, h⟩ | ⟨hb, h⟩
  · refine qr_t hb rfl ?_
    exact qe120_34 d  h
  · refine qr_f hb rfl ?_
    change qm_E _ _ _ (11, [some (vR 30 0), some (vI a1), some (vI a2), some (vI a3), some (vI a4), none], [vR 30 0], qp_H s x e, (0, 0)) _
    iterate 3 refine qm_E_next rfl ?_
    obtain ⟨q2, hq, h⟩ := qs_bd h
    refine qm_E_call rfl (qe116 (d + 0) hq) rfl ?_
    change qm_E _ _ _ (17, [some (vR 30 0), some (vI a1), some (vI a2), some (vI a3), some (vI a4), none], [vI q2, vR 30 0], qp_H s x e, (0, 0)) _
    rcases qr_cond h with ⟨hb, h⟩ | ⟨hb, h⟩
    · refine qr_t hb rfl ?_
      exact qe120_34 d  h
    · refine qr_f hb rfl ?_
      change qm_E _ _ _ (20, [some (vR 30 0), some (vI a1), some (vI a2), some (vI a3), some (vI a4), none], [vR 30 0], qp_H s x e, (0, 0)) _
      iterate 3 refine qm_E_next rfl ?_
      obtain ⟨q3, hq, h⟩ := qs_bd h
      refine qm_E_call rfl (qe116 (d + 0) hq) rfl ?_
      change qm_E _ _ _ (27, [some (vR 30 0), some (vI a1), some (vI a2), some (vI a3), some (vI a4), none], [vI q3, vR 30 0], qp_H s x e, (0, 0)) _
      rcases qr_cond h with ⟨hb, h⟩ | ⟨hb, h⟩
      · refine qr_t hb rfl ?_
        exact qe120_34 d  h
      · refine qr_f hb rfl ?_
        change qm_E _ _ _ (30, [some (vR 30 0), some (vI a1), some (vI a2), some (vI a3), some (vI a4), none], [vR 30 0], qp_H s x e, (0, 0)) _
        iterate 2 refine qm_E_next rfl ?_
        exact qe120_35 d  h
/-! PeriodKernelModel mode -/
def qf121 (a1 : Int32) (a2 : Int32) (s : qp_S) : Option (Int32 × qp_S) := ((qf116 a1 (0 : Int32) (3 : Int32) s).bind fun q1 => ((qf116 a2 (0 : Int32) (60 : Int32) s).bind fun q2 => ((qf117 q1 q2 s).bind fun q3 => (bif qm_cmp .eq (q3.1) (0 : Int32) then some (0, q3.2) else (if qm_inb a1 4 = true then some (0, (qp_up q3.2 41 0 (a1).toNatClampNeg a2)) else none)))))
theorem qe121 (d : Nat) {L : Nat} {xs : Nat → Int32} {x : Int64} {e : Nat → Nat}    {a1 : Int32} {a2 : Int32} {s : qp_S} {r : Int32 × qp_S} (h : qf121  a1 a2 s = some r) : qm_E (qz_ro L xs) (d + 1) 121 (0, qm_ent 121 [vR 30 0, vI a1, vI a2], [], qp_H s x e, (0, 0)) (qf_u r.2 x e) := by
  unfold qf121 at h
  iterate 4 refine qm_E_next rfl ?_
  obtain ⟨q1, hq, h⟩ := qs_bd h
  refine qm_E_call rfl (qe116 (d + 0) hq) rfl ?_
  change qm_E _ _ _ (7, [some (vR 30 0), some (vI a1), some (vI a2)], [vI q1, vR 30 0], qp_H s x e, (0, 0)) _
  iterate 3 refine qm_E_next rfl ?_
  obtain ⟨q2, hq, h⟩ := qs_bd h
  refine qm_E_call rfl (qe116 (d + 0) hq) rfl ?_
  change qm_E _ _ _ (14, [some (vR 30 0), some (vI a1), some (vI a2)], [vI q2, vI q1, vR 30 0], qp_H s x e, (0, 0)) _
  obtain ⟨q3, hq, h⟩ := qs_bd h
  refine qm_E_call rfl (qe117 (d + 0) hq) rfl ?_
  change qm_E _ _ _ (17, [some (vR 30 0), some (vI a1), some (vI a2)], [vI (q3.1)], qp_H q3.2 x e, (0, 0)) _
  rcases qr_cond h with ⟨hb, h⟩ | ⟨hb, h⟩
  · refine qr_t hb rfl ?_
    change qm_E _ _ _ (27, [some (vR 30 0), some (vI a1), some (vI a2)], [], qp_H q3.2 x e, (0, 0)) _
    cases h
    exact qr_ret rfl rfl rfl
  · refine qr_f hb rfl ?_
    change qm_E _ _ _ (20, [some (vR 30 0), some (vI a1), some (vI a2)], [], qp_H q3.2 x e, (0, 0)) _
    iterate 4 refine qm_E_next rfl ?_
    obtain ⟨hb, h⟩ := qr_inb h
    refine qr_iastore hb rfl rfl rfl rfl rfl ?_
    change qm_E _ _ _ (27, [some (vR 30 0), some (vI a1), some (vI a2)], [], qp_H (qp_up q3.2 41 0 (a1).toNatClampNeg a2) x e, (0, 0)) _
    cases h
    exact qr_ret rfl rfl rfl
/-! PeriodKernelModel use -/
def qf122_25 (a1 : Int32) (a2 : Int32) (a3 : Int32) (b1 : Int32) (s : qp_S) : Option (Int32 × qp_S) := ((qf116 a3 (0 : Int32) (12 : Int32) s).bind fun q3 => ((qf117 b1 q3 s).bind fun q4 => (bif qm_cmp .eq (q4.1) (0 : Int32) then some (0, q4.2) else (if qm_inb (((8 : Int32) * a1) + a2) 32 = true then some (0, (qp_up q4.2 42 0 ((((8 : Int32) * a1) + a2)).toNatClampNeg a3)) else none))))
theorem qe122_25 (d : Nat) {L : Nat} {xs : Nat → Int32} {x : Int64} {e : Nat → Nat}    {a1 : Int32} {a2 : Int32} {a3 : Int32} {b1 : Int32} {s : qp_S} {r : Int32 × qp_S} (h : qf122_25  a1 a2 a3 b1 s = some r) : qm_E (qz_ro L xs) (d + 1) 122 (25, [some (vR 30 0), some (vI a1), some (vI a2), some (vI a3)], [vI b1, vR 30 0], qp_H s x e, (0, 0)) (qf_u r.2 x e) := by
  unfold qf122_25 at h
  iterate 3 refine qm_E_next rfl ?_
  obtain ⟨q3, hq, h⟩ := qs_bd h
  refine qm_E_call rfl (qe116 (d + 0) hq) rfl ?_
  change qm_E _ _ _ (32, [some (vR 30 0), some (vI a1), some (vI a2), some (vI a3)], [vI q3, vI b1, vR 30 0], qp_H s x e, (0, 0)) _
  obtain ⟨q4, hq, h⟩ := qs_bd h
  refine qm_E_call rfl (qe117 (d + 0) hq) rfl ?_
  change qm_E _ _ _ (35, [some (vR 30 0), some (vI a1), some (vI a2), some (vI a3)], [vI (q4.1)], qp_H q4.2 x e, (0, 0)) _
  rcases qr_cond h with ⟨hb, h⟩ | ⟨hb, h⟩
  · refine qr_t hb rfl ?_
    change qm_E _ _ _ (50, [some (vR 30 0), some (vI a1), some (vI a2), some (vI a3)], [], qp_H q4.2 x e, (0, 0)) _
    cases h
    exact qr_ret rfl rfl rfl
  · refine qr_f hb rfl ?_
    change qm_E _ _ _ (38, [some (vR 30 0), some (vI a1), some (vI a2), some (vI a3)], [], qp_H q4.2 x e, (0, 0)) _
    iterate 6 refine qm_E_next rfl ?_
    change qm_E _ _ _ (47, [some (vR 30 0), some (vI a1), some (vI a2), some (vI a3)], [vI a2, vI ((8 : Int32) * a1), vR 42 0], qp_H q4.2 x e, (0, 0)) _
    iterate 2 refine qm_E_next rfl ?_
    obtain ⟨hb, h⟩ := qr_inb h
    refine qr_iastore hb rfl rfl rfl rfl rfl ?_
    change qm_E _ _ _ (50, [some (vR 30 0), some (vI a1), some (vI a2), some (vI a3)], [], qp_H (qp_up q4.2 42 0 ((((8 : Int32) * a1) + a2)).toNatClampNeg a3) x e, (0, 0)) _
    cases h
    exact qr_ret rfl rfl rfl
def qf122_24 (a1 : Int32) (a2 : Int32) (a3 : Int32) (s : qp_S) : Option (Int32 × qp_S) := qf122_25 a1 a2 a3 (0 : Int32) s
theorem qe122_24 (d : Nat) {L : Nat} {xs : Nat → Int32} {x : Int64} {e : Nat → Nat}    {a1 : Int32} {a2 : Int32} {a3 : Int32} {s : qp_S} {r : Int32 × qp_S} (h : qf122_24  a1 a2 a3 s = some r) : qm_E (qz_ro L xs) (d + 1) 122 (24, [some (vR 30 0), some (vI a1), some (vI a2), some (vI a3)], [vR 30 0], qp_H s x e, (0, 0)) (qf_u r.2 x e) := by
  unfold qf122_24 at h
  iterate 1 refine qm_E_next rfl ?_
  exact qe122_25 d  h
def qf122 (a1 : Int32) (a2 : Int32) (a3 : Int32) (s : qp_S) : Option (Int32 × qp_S) := ((qf116 a1 (0 : Int32) (3 : Int32) s).bind fun q1 => (bif qm_cmp .eq q1 (0 : Int32) then qf122_24 a1 a2 a3 s else ((qf116 a2 (0 : Int32) (7 : Int32) s).bind fun q2 => (bif qm_cmp .eq q2 (0 : Int32) then qf122_24 a1 a2 a3 s else qf122_25 a1 a2 a3 (1 : Int32) s))))
theorem qe122 (d : Nat) {L : Nat} {xs : Nat → Int32} {x : Int64} {e : Nat → Nat}    {a1 : Int32} {a2 : Int32} {a3 : Int32} {s : qp_S} {r : Int32 × qp_S} (h : qf122  a1 a2 a3 s = some r) : qm_E (qz_ro L xs) (d + 1) 122 (0, qm_ent 122 [vR 30 0, vI a1, vI a2, vI a3], [], qp_H s x e, (0, 0)) (qf_u r.2 x e) := by
  unfold qf122 at h
  iterate 4 refine qm_E_next rfl ?_
  obtain ⟨q1, hq, h⟩ := qs_bd h
  refine qm_E_call rfl (qe116 (d + 0) hq) rfl ?_
  change qm_E _ _ _ (7, [some (vR 30 0), some (vI a1), some (vI a2), some (vI a3)], [vI q1, vR 30 0], qp_H s x e, (0, 0)) _
  rcases qr_cond h with ⟨hb, h⟩ | ⟨hb, h⟩
  · refine qr_t hb rfl ?_
    exact qe122_24 d  h
  · refine qr_f hb rfl ?_
    change qm_E _ _ _ (10, [some (vR 30 0), some (vI a1), some (vI a2), some (vI a3)], [vR 30 0], qp_H s x e, (0, 0)) _
    iterate 3 refine qm_E_next rfl ?_
    obtain ⟨q2, hq, h⟩ := qs_bd h
    refine qm_E_call rfl (qe116 (d + 0) hq) rfl ?_
    change qm_E _ _ _ (17, [some (vR 30 0), some (vI a1), some (vI a2), some (vI a3)], [vI q2, vR 30 0], qp_H s x e, (0, 0)) _
    rcases qr_cond h with ⟨hb, h⟩ | ⟨hb, h⟩
    · refine qr_t hb rfl ?_
      exact qe122_24 d  h
    · refine qr_f hb rfl ?_
      change qm_E _ _ _ (20, [some (vR 30 0), some (vI a1), some (vI a2), some (vI a3)], [vR 30 0], qp_H s x e, (0, 0)) _
      iterate 2 refine qm_E_next rfl ?_
      exact qe122_25 d  h
