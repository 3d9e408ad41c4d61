/-! PeriodKernelModel again -/
def qf148_77  : Nat → Int32 → Int32 → Int32 → qp_S → Option (Int32 × qp_S)
  | 0, _, _, _, _ => none
  | n + 1, a1, a2, a3, s => (bif qm_cmp .ge a3 a2 then some (a3, s) else (bif qm_cmp .ne (s 30 0 35) (0 : Int32) then some (a3, s) else (if qm_inb (((32 : Int32) * a1) + (s 30 0 34)) 256 = true then ((qf149 (s 32 0 ((((32 : Int32) * a1) + (s 30 0 34))).toNatClampNeg) s).bind fun q1 => qf148_77  n a1 a2 (a3 + (1 : Int32)) q1.2) else none)))
theorem qe148_77 (d : Nat) {L : Nat} {xs : Nat → Int32} {x : Int64} {e : Nat → Nat}   : ∀ {n : Nat}  {a1 : Int32} {a2 : Int32} {a3 : Int32} {s : qp_S} {r : Int32 × qp_S}, qf148_77  n a1 a2 a3 s = some r → qm_E (qz_ro L xs) (d + 2) 148 (77, [some (vR 30 0), some (vI a1), some (vI a2), some (vI a3)], [], qp_H s x e, (0, 0)) (qf_v r.1 r.2 x e) := by
  intro n
  induction n with
  | zero => intro  a1 a2 a3 s r h; cases h
  | succ n ih =>
    intro  a1 a2 a3 s r h
    unfold qf148_77 at h
    iterate 2 refine qm_E_next rfl ?_
    rcases qr_cond h with ⟨hb, h⟩ | ⟨hb, h⟩
    · refine qr_t hb rfl ?_
      change qm_E _ _ _ (113, [some (vR 30 0), some (vI a1), some (vI a2), some (vI a3)], [], qp_H s x e, (0, 0)) _
      iterate 1 refine qm_E_next rfl ?_
      cases h
      exact qr_iret (Or.inl rfl) rfl rfl
    · refine qr_f hb rfl ?_
      change qm_E _ _ _ (82, [some (vR 30 0), some (vI a1), some (vI a2), some (vI a3)], [], qp_H s x e, (0, 0)) _
      iterate 2 refine qm_E_next rfl ?_
      rcases qr_cond h with ⟨hb, h⟩ | ⟨hb, h⟩
      · refine qr_t hb rfl ?_
        change qm_E _ _ _ (113, [some (vR 30 0), some (vI a1), some (vI a2), some (vI a3)], [], qp_H s x e, (0, 0)) _
        iterate 1 refine qm_E_next rfl ?_
        cases h
        exact qr_iret (Or.inl rfl) rfl rfl
      · refine qr_f hb rfl ?_
        change qm_E _ _ _ (89, [some (vR 30 0), some (vI a1), some (vI a2), some (vI a3)], [], qp_H s x e, (0, 0)) _
        iterate 6 refine qm_E_next rfl ?_
        change qm_E _ _ _ (98, [some (vR 30 0), some (vI a1), some (vI a2), some (vI a3)], [vI ((32 : Int32) * a1), vR 32 0, vR 30 0], qp_H s x e, (0, 0)) _
        iterate 3 refine qm_E_next rfl ?_
        obtain ⟨hb, h⟩ := qr_inb h
        refine qr_iaload hb rfl rfl rfl rfl ?_
        change qm_E _ _ _ (104, [some (vR 30 0), some (vI a1), some (vI a2), some (vI a3)], [vI (s 32 0 ((((32 : Int32) * a1) + (s 30 0 34))).toNatClampNeg), vR 30 0], qp_H s x e, (0, 0)) _
        obtain ⟨q1, hq, h⟩ := qs_bd h
        refine qm_E_call rfl (qe149 (d + 0) hq) rfl ?_
        change qm_E _ _ _ (107, [some (vR 30 0), some (vI a1), some (vI a2), some (vI a3)], [], qp_H q1.2 x e, (0, 0)) _
        iterate 2 refine qm_E_next rfl ?_
        exact ih h
def qf148_46  : Nat → Int32 → Int32 → Int32 → qp_S → Option (Int32 × qp_S)
  | 0, _, _, _, _ => none
  | n + 1, a1, a2, a3, s => (bif qm_cmp .ge a3 (6 : Int32) then qf148_77  4096 a1 a2 (0 : Int32) s else (if qm_inb (((6 : Int32) * a1) + a3) 48 = true then (if qm_inb a3 6 = true then qf148_46  n a1 a2 (a3 + (1 : Int32)) (qp_up s 59 0 (a3).toNatClampNeg (s 36 0 ((((6 : Int32) * a1) + a3)).toNatClampNeg)) else none) else none))
theorem qe148_46 (d : Nat) {L : Nat} {xs : Nat → Int32} {x : Int64} {e : Nat → Nat}   : ∀ {n : Nat}  {a1 : Int32} {a2 : Int32} {a3 : Int32} {s : qp_S} {r : Int32 × qp_S}, qf148_46  n a1 a2 a3 s = some r → qm_E (qz_ro L xs) (d + 2) 148 (46, [some (vR 30 0), some (vI a1), some (vI a2), some (vI a3)], [], qp_H s x e, (0, 0)) (qf_v r.1 r.2 x e) := by
  intro n
  induction n with
  | zero => intro  a1 a2 a3 s r h; cases h
  | succ n ih =>
    intro  a1 a2 a3 s r h
    unfold qf148_46 at h
    iterate 2 refine qm_E_next rfl ?_
    rcases qr_cond h with ⟨hb, h⟩ | ⟨hb, h⟩
    · refine qr_t hb rfl ?_
      change qm_E _ _ _ (75, [some (vR 30 0), some (vI a1), some (vI a2), some (vI a3)], [], qp_H s x e, (0, 0)) _
      iterate 2 refine qm_E_next rfl ?_
      exact qe148_77 d  h
    · refine qr_f hb rfl ?_
      change qm_E _ _ _ (52, [some (vR 30 0), some (vI a1), some (vI a2), some (vI a3)], [], qp_H s x e, (0, 0)) _
      iterate 6 refine qm_E_next rfl ?_
      change qm_E _ _ _ (63, [some (vR 30 0), some (vI a1), some (vI a2), some (vI a3)], [vI (6 : Int32), vR 36 0, vI a3, vR 59 0], qp_H s x e, (0, 0)) _
      iterate 4 refine qm_E_next rfl ?_
      obtain ⟨hb, h⟩ := qr_inb h
      refine qr_iaload hb rfl rfl rfl rfl ?_
      change qm_E _ _ _ (68, [some (vR 30 0), some (vI a1), some (vI a2), some (vI a3)], [vI (s 36 0 ((((6 : Int32) * a1) + a3)).toNatClampNeg), vI a3, vR 59 0], qp_H s x e, (0, 0)) _
      obtain ⟨hb, h⟩ := qr_inb h
      refine qr_iastore hb rfl rfl rfl rfl rfl ?_
      change qm_E _ _ _ (69, [some (vR 30 0), some (vI a1), some (vI a2), some (vI a3)], [], qp_H (qp_up s 59 0 (a3).toNatClampNeg (s 36 0 ((((6 : Int32) * a1) + a3)).toNatClampNeg)) x e, (0, 0)) _
      iterate 2 refine qm_E_next rfl ?_
      exact ih h
def qf148_17  : Nat → Int32 → Int32 → Int32 → qp_S → Option (Int32 × qp_S)
  | 0, _, _, _, _ => none
  | n + 1, a1, a2, a3, s => (bif qm_cmp .ge a3 (4 : Int32) then qf148_46  4096 a1 a2 (0 : Int32) s else (if qm_inb (((4 : Int32) * a1) + a3) 32 = true then (if qm_inb a3 4 = true then qf148_17  n a1 a2 (a3 + (1 : Int32)) (qp_up s 58 0 (a3).toNatClampNeg (s 37 0 ((((4 : Int32) * a1) + a3)).toNatClampNeg)) else none) else none))
theorem qe148_17 (d : Nat) {L : Nat} {xs : Nat → Int32} {x : Int64} {e : Nat → Nat}   : ∀ {n : Nat}  {a1 : Int32} {a2 : Int32} {a3 : Int32} {s : qp_S} {r : Int32 × qp_S}, qf148_17  n a1 a2 a3 s = some r → qm_E (qz_ro L xs) (d + 2) 148 (17, [some (vR 30 0), some (vI a1), some (vI a2), some (vI a3)], [], qp_H s x e, (0, 0)) (qf_v r.1 r.2 x e) := by
  intro n
  induction n with
  | zero => intro  a1 a2 a3 s r h; cases h
  | succ n ih =>
    intro  a1 a2 a3 s r h
    unfold qf148_17 at h
    iterate 2 refine qm_E_next rfl ?_
    rcases qr_cond h with ⟨hb, h⟩ | ⟨hb, h⟩
    · refine qr_t hb rfl ?_
      change qm_E _ _ _ (44, [some (vR 30 0), some (vI a1), some (vI a2), some (vI a3)], [], qp_H s x e, (0, 0)) _
      iterate 2 refine qm_E_next rfl ?_
      exact qe148_46 d  h
    · refine qr_f hb rfl ?_
      change qm_E _ _ _ (22, [some (vR 30 0), some (vI a1), some (vI a2), some (vI a3)], [], qp_H s x e, (0, 0)) _
      iterate 6 refine qm_E_next rfl ?_
      change qm_E _ _ _ (32, [some (vR 30 0), some (vI a1), some (vI a2), some (vI a3)], [vI (4 : Int32), vR 37 0, vI a3, vR 58 0], qp_H s x e, (0, 0)) _
      iterate 4 refine qm_E_next rfl ?_
      obtain ⟨hb, h⟩ := qr_inb h
      refine qr_iaload hb rfl rfl rfl rfl ?_
      change qm_E _ _ _ (37, [some (vR 30 0), some (vI a1), some (vI a2), some (vI a3)], [vI (s 37 0 ((((4 : Int32) * a1) + a3)).toNatClampNeg), vI a3, vR 58 0], qp_H s x e, (0, 0)) _
      obtain ⟨hb, h⟩ := qr_inb h
      refine qr_iastore hb rfl rfl rfl rfl rfl ?_
      change qm_E _ _ _ (38, [some (vR 30 0), some (vI a1), some (vI a2), some (vI a3)], [], qp_H (qp_up s 58 0 (a3).toNatClampNeg (s 37 0 ((((4 : Int32) * a1) + a3)).toNatClampNeg)) x e, (0, 0)) _
      iterate 2 refine qm_E_next rfl ?_
      exact ih h
def qf148 (a1 : Int32) (a2 : Int32) (s : qp_S) : Option (Int32 × qp_S) := qf148_17 4096 a1 a2 (0 : Int32) (qp_up (qp_up (qp_up s 30 0 33 (0 : Int32)) 30 0 34 (0 : Int32)) 30 0 35 (0 : Int32))
theorem qe148 (d : Nat) {L : Nat} {xs : Nat → Int32} {x : Int64} {e : Nat → Nat}    {a1 : Int32} {a2 : Int32} {s : qp_S} {r : Int32 × qp_S} (h : qf148  a1 a2 s = some r) : qm_E (qz_ro L xs) (d + 2) 148 (0, qm_ent 148 [vR 30 0, vI a1, vI a2], [], qp_H s x e, (0, 0)) (qf_v r.1 r.2 x e) := by
  unfold qf148 at h
  iterate 2 refine qm_E_next rfl ?_
  refine qr_put rfl rfl ?_
  change qm_E _ _ _ (5, [some (vR 30 0), some (vI a1), some (vI a2), none], [], qp_H (qp_up s 30 0 33 (0 : Int32)) x e, (0, 0)) _
  iterate 2 refine qm_E_next rfl ?_
  refine qr_put rfl rfl ?_
  change qm_E _ _ _ (10, [some (vR 30 0), some (vI a1), some (vI a2), none], [], qp_H (qp_up (qp_up s 30 0 33 (0 : Int32)) 30 0 34 (0 : Int32)) x e, (0, 0)) _
  iterate 2 refine qm_E_next rfl ?_
  refine qr_putz (Or.inl rfl) rfl rfl rfl rfl rfl rfl rfl rfl rfl ?_
  change qm_E _ _ _ (15, [some (vR 30 0), some (vI a1), some (vI a2), none], [], qp_H (qp_up (qp_up (qp_up s 30 0 33 (0 : Int32)) 30 0 34 (0 : Int32)) 30 0 35 (0 : Int32)) x e, (0, 0)) _
  iterate 2 refine qm_E_next rfl ?_
  exact qe148_17 d  h
/-! PeriodKernelModel bounded -/
def qf153 (a1 : Int32) (a2 : Int32) (s : qp_S) : Option (Int32) := (if qm_inb a1 16 = true then (bif qm_cmp .ge a2 (s 38 0 (a1).toNatClampNeg) then (if qm_inb a1 16 = true then (bif qm_cmp .le a2 (s 39 0 (a1).toNatClampNeg) then some a2 else (if qm_inb a1 16 = true then some (s 39 0 (a1).toNatClampNeg) else none)) else none) else (if qm_inb a1 16 = true then some (s 38 0 (a1).toNatClampNeg) else none)) else none)
theorem qe153 (d : Nat) {L : Nat} {xs : Nat → Int32} {x : Int64} {e : Nat → Nat}    {a1 : Int32} {a2 : Int32} {s : qp_S} {r : Int32} (h : qf153  a1 a2 s = some r) : qm_E (qz_ro L xs) (d + 0) 153 (0, qm_ent 153 [vR 30 0, vI a1, vI a2], [], qp_H s x e, (0, 0)) (qf_v r s x e) := by
  unfold qf153 at h
  iterate 4 refine qm_E_next rfl ?_
  obtain ⟨hb, h⟩ := qr_inb h
  refine qr_iaload hb rfl rfl rfl rfl ?_
  change qm_E _ _ _ (7, [some (vR 30 0), some (vI a1), some (vI a2)], [vI (s 38 0 (a1).toNatClampNeg), vI a2], qp_H s x e, (0, 0)) _
  rcases qr_cond h with ⟨hb, h⟩ | ⟨hb, h⟩
  · refine qr_t hb rfl ?_
    change qm_E _ _ _ (19, [some (vR 30 0), some (vI a1), some (vI a2)], [], qp_H s x e, (0, 0)) _
    iterate 4 refine qm_E_next rfl ?_
    obtain ⟨hb, h⟩ := qr_inb h
    refine qr_iaload hb rfl rfl rfl rfl ?_
    change qm_E _ _ _ (26, [some (vR 30 0), some (vI a1), some (vI a2)], [vI (s 39 0 (a1).toNatClampNeg), vI a2], qp_H s x e, (0, 0)) _
    rcases qr_cond h with ⟨hb, h⟩ | ⟨hb, h⟩
    · refine qr_t hb rfl ?_
      change qm_E _ _ _ (38, [some (vR 30 0), some (vI a1), some (vI a2)], [], qp_H s x e, (0, 0)) _
      iterate 1 refine qm_E_next rfl ?_
      cases h
      exact qr_iret (Or.inl rfl) rfl rfl
    · refine qr_f hb rfl ?_
      change qm_E _ _ _ (29, [some (vR 30 0), some (vI a1), some (vI a2)], [], qp_H s x e, (0, 0)) _
      iterate 3 refine qm_E_next rfl ?_
      obtain ⟨hb, h⟩ := qr_inb h
      refine qr_iaload hb rfl rfl rfl rfl ?_
      change qm_E _ _ _ (35, [some (vR 30 0), some (vI a1), some (vI a2)], [vI (s 39 0 (a1).toNatClampNeg)], qp_H s x e, (0, 0)) _
      iterate 1 refine qm_E_next rfl ?_
      cases h
      exact qr_iret (Or.inl rfl) rfl rfl
  · refine qr_f hb rfl ?_
    change qm_E _ _ _ (10, [some (vR 30 0), some (vI a1), some (vI a2)], [], qp_H s x e, (0, 0)) _
    iterate 3 refine qm_E_next rfl ?_
    obtain ⟨hb, h⟩ := qr_inb h
    refine qr_iaload hb rfl rfl rfl rfl ?_
    change qm_E _ _ _ (16, [some (vR 30 0), some (vI a1), some (vI a2)], [vI (s 38 0 (a1).toNatClampNeg)], qp_H s x e, (0, 0)) _
    iterate 1 refine qm_E_next rfl ?_
    cases h
    exact qr_iret (Or.inl rfl) rfl rfl
/-! PeriodKernelModel note -/
def qf154 (a1 : Int32) (a2 : Int32) (s : qp_S) : Option (Int32 × qp_S) := (bif qm_cmp .ge (s 30 0 30) (300 : Int32) then some (0, (qp_up s 30 0 30 ((s 30 0 30) + (1 : Int32)))) else (if qm_inb ((4 : Int32) * (s 30 0 30)) 1200 = true then (if qm_inb (((4 : Int32) * ((qp_up s 56 0 (((4 : Int32) * (s 30 0 30))).toNatClampNeg (s 30 0 21)) 30 0 30)) + (1 : Int32)) 1200 = true then (if qm_inb a1 16 = true then (if qm_inb (((4 : Int32) * ((qp_up (qp_up s 56 0 (((4 : Int32) * (s 30 0 30))).toNatClampNeg (s 30 0 21)) 56 0 ((((4 : Int32) * ((qp_up s 56 0 (((4 : Int32) * (s 30 0 30))).toNatClampNeg (s 30 0 21)) 30 0 30)) + (1 : Int32))).toNatClampNeg a1) 30 0 30)) + (2 : Int32)) 1200 = true then (bif qm_cmp .eq a2 (0 : Int32) then (if qm_inb (((4 : Int32) * ((qp_up (qp_up (qp_up s 56 0 (((4 : Int32) * (s 30 0 30))).toNatClampNeg (s 30 0 21)) 56 0 ((((4 : Int32) * ((qp_up s 56 0 (((4 : Int32) * (s 30 0 30))).toNatClampNeg (s 30 0 21)) 30 0 30)) + (1 : Int32))).toNatClampNeg a1) 56 0 ((((4 : Int32) * ((qp_up (qp_up s 56 0 (((4 : Int32) * (s 30 0 30))).toNatClampNeg (s 30 0 21)) 56 0 ((((4 : Int32) * ((qp_up s 56 0 (((4 : Int32) * (s 30 0 30))).toNatClampNeg (s 30 0 21)) 30 0 30)) + (1 : Int32))).toNatClampNeg a1) 30 0 30)) + (2 : Int32))).toNatClampNeg ((qp_up (qp_up s 56 0 (((4 : Int32) * (s 30 0 30))).toNatClampNeg (s 30 0 21)) 56 0 ((((4 : Int32) * ((qp_up s 56 0 (((4 : Int32) * (s 30 0 30))).toNatClampNeg (s 30 0 21)) 30 0 30)) + (1 : Int32))).toNatClampNeg a1) 40 0 (a1).toNatClampNeg)) 30 0 30)) + (3 : Int32)) 1200 = true then some (0, (qp_up (qp_up (qp_up (qp_up (qp_up s 56 0 (((4 : Int32) * (s 30 0 30))).toNatClampNeg (s 30 0 21)) 56 0 ((((4 : Int32) * ((qp_up s 56 0 (((4 : Int32) * (s 30 0 30))).toNatClampNeg (s 30 0 21)) 30 0 30)) + (1 : Int32))).toNatClampNeg a1) 56 0 ((((4 : Int32) * ((qp_up (qp_up s 56 0 (((4 : Int32) * (s 30 0 30))).toNatClampNeg (s 30 0 21)) 56 0 ((((4 : Int32) * ((qp_up s 56 0 (((4 : Int32) * (s 30 0 30))).toNatClampNeg (s 30 0 21)) 30 0 30)) + (1 : Int32))).toNatClampNeg a1) 30 0 30)) + (2 : Int32))).toNatClampNeg ((qp_up (qp_up s 56 0 (((4 : Int32) * (s 30 0 30))).toNatClampNeg (s 30 0 21)) 56 0 ((((4 : Int32) * ((qp_up s 56 0 (((4 : Int32) * (s 30 0 30))).toNatClampNeg (s 30 0 21)) 30 0 30)) + (1 : Int32))).toNatClampNeg a1) 40 0 (a1).toNatClampNeg)) 56 0 ((((4 : Int32) * ((qp_up (qp_up (qp_up s 56 0 (((4 : Int32) * (s 30 0 30))).toNatClampNeg (s 30 0 21)) 56 0 ((((4 : Int32) * ((qp_up s 56 0 (((4 : Int32) * (s 30 0 30))).toNatClampNeg (s 30 0 21)) 30 0 30)) + (1 : Int32))).toNatClampNeg a1) 56 0 ((((4 : Int32) * ((qp_up (qp_up s 56 0 (((4 : Int32) * (s 30 0 30))).toNatClampNeg (s 30 0 21)) 56 0 ((((4 : Int32) * ((qp_up s 56 0 (((4 : Int32) * (s 30 0 30))).toNatClampNeg (s 30 0 21)) 30 0 30)) + (1 : Int32))).toNatClampNeg a1) 30 0 30)) + (2 : Int32))).toNatClampNeg ((qp_up (qp_up s 56 0 (((4 : Int32) * (s 30 0 30))).toNatClampNeg (s 30 0 21)) 56 0 ((((4 : Int32) * ((qp_up s 56 0 (((4 : Int32) * (s 30 0 30))).toNatClampNeg (s 30 0 21)) 30 0 30)) + (1 : Int32))).toNatClampNeg a1) 40 0 (a1).toNatClampNeg)) 30 0 30)) + (3 : Int32))).toNatClampNeg (0 : Int32)) 30 0 30 (((qp_up (qp_up (qp_up (qp_up s 56 0 (((4 : Int32) * (s 30 0 30))).toNatClampNeg (s 30 0 21)) 56 0 ((((4 : Int32) * ((qp_up s 56 0 (((4 : Int32) * (s 30 0 30))).toNatClampNeg (s 30 0 21)) 30 0 30)) + (1 : Int32))).toNatClampNeg a1) 56 0 ((((4 : Int32) * ((qp_up (qp_up s 56 0 (((4 : Int32) * (s 30 0 30))).toNatClampNeg (s 30 0 21)) 56 0 ((((4 : Int32) * ((qp_up s 56 0 (((4 : Int32) * (s 30 0 30))).toNatClampNeg (s 30 0 21)) 30 0 30)) + (1 : Int32))).toNatClampNeg a1) 30 0 30)) + (2 : Int32))).toNatClampNeg ((qp_up (qp_up s 56 0 (((4 : Int32) * (s 30 0 30))).toNatClampNeg (s 30 0 21)) 56 0 ((((4 : Int32) * ((qp_up s 56 0 (((4 : Int32) * (s 30 0 30))).toNatClampNeg (s 30 0 21)) 30 0 30)) + (1 : Int32))).toNatClampNeg a1) 40 0 (a1).toNatClampNeg)) 56 0 ((((4 : Int32) * ((qp_up (qp_up (qp_up s 56 0 (((4 : Int32) * (s 30 0 30))).toNatClampNeg (s 30 0 21)) 56 0 ((((4 : Int32) * ((qp_up s 56 0 (((4 : Int32) * (s 30 0 30))).toNatClampNeg (s 30 0 21)) 30 0 30)) + (1 : Int32))).toNatClampNeg a1) 56 0 ((((4 : Int32) * ((qp_up (qp_up s 56 0 (((4 : Int32) * (s 30 0 30))).toNatClampNeg (s 30 0 21)) 56 0 ((((4 : Int32) * ((qp_up s 56 0 (((4 : Int32) * (s 30 0 30))).toNatClampNeg (s 30 0 21)) 30 0 30)) + (1 : Int32))).toNatClampNeg a1) 30 0 30)) + (2 : Int32))).toNatClampNeg ((qp_up (qp_up s 56 0 (((4 : Int32) * (s 30 0 30))).toNatClampNeg (s 30 0 21)) 56 0 ((((4 : Int32) * ((qp_up s 56 0 (((4 : Int32) * (s 30 0 30))).toNatClampNeg (s 30 0 21)) 30 0 30)) + (1 : Int32))).toNatClampNeg a1) 40 0 (a1).toNatClampNeg)) 30 0 30)) + (3 : Int32))).toNatClampNeg (0 : Int32)) 30 0 30) + (1 : Int32)))) else none) else (if qm_inb (((4 : Int32) * ((qp_up (qp_up (qp_up s 56 0 (((4 : Int32) * (s 30 0 30))).toNatClampNeg (s 30 0 21)) 56 0 ((((4 : Int32) * ((qp_up s 56 0 (((4 : Int32) * (s 30 0 30))).toNatClampNeg (s 30 0 21)) 30 0 30)) + (1 : Int32))).toNatClampNeg a1) 56 0 ((((4 : Int32) * ((qp_up (qp_up s 56 0 (((4 : Int32) * (s 30 0 30))).toNatClampNeg (s 30 0 21)) 56 0 ((((4 : Int32) * ((qp_up s 56 0 (((4 : Int32) * (s 30 0 30))).toNatClampNeg (s 30 0 21)) 30 0 30)) + (1 : Int32))).toNatClampNeg a1) 30 0 30)) + (2 : Int32))).toNatClampNeg ((qp_up (qp_up s 56 0 (((4 : Int32) * (s 30 0 30))).toNatClampNeg (s 30 0 21)) 56 0 ((((4 : Int32) * ((qp_up s 56 0 (((4 : Int32) * (s 30 0 30))).toNatClampNeg (s 30 0 21)) 30 0 30)) + (1 : Int32))).toNatClampNeg a1) 40 0 (a1).toNatClampNeg)) 30 0 30)) + (3 : Int32)) 1200 = true then some (0, (qp_up (qp_up (qp_up (qp_up (qp_up s 56 0 (((4 : Int32) * (s 30 0 30))).toNatClampNeg (s 30 0 21)) 56 0 ((((4 : Int32) * ((qp_up s 56 0 (((4 : Int32) * (s 30 0 30))).toNatClampNeg (s 30 0 21)) 30 0 30)) + (1 : Int32))).toNatClampNeg a1) 56 0 ((((4 : Int32) * ((qp_up (qp_up s 56 0 (((4 : Int32) * (s 30 0 30))).toNatClampNeg (s 30 0 21)) 56 0 ((((4 : Int32) * ((qp_up s 56 0 (((4 : Int32) * (s 30 0 30))).toNatClampNeg (s 30 0 21)) 30 0 30)) + (1 : Int32))).toNatClampNeg a1) 30 0 30)) + (2 : Int32))).toNatClampNeg ((qp_up (qp_up s 56 0 (((4 : Int32) * (s 30 0 30))).toNatClampNeg (s 30 0 21)) 56 0 ((((4 : Int32) * ((qp_up s 56 0 (((4 : Int32) * (s 30 0 30))).toNatClampNeg (s 30 0 21)) 30 0 30)) + (1 : Int32))).toNatClampNeg a1) 40 0 (a1).toNatClampNeg)) 56 0 ((((4 : Int32) * ((qp_up (qp_up (qp_up s 56 0 (((4 : Int32) * (s 30 0 30))).toNatClampNeg (s 30 0 21)) 56 0 ((((4 : Int32) * ((qp_up s 56 0 (((4 : Int32) * (s 30 0 30))).toNatClampNeg (s 30 0 21)) 30 0 30)) + (1 : Int32))).toNatClampNeg a1) 56 0 ((((4 : Int32) * ((qp_up (qp_up s 56 0 (((4 : Int32) * (s 30 0 30))).toNatClampNeg (s 30 0 21)) 56 0 ((((4 : Int32) * ((qp_up s 56 0 (((4 : Int32) * (s 30 0 30))).toNatClampNeg (s 30 0 21)) 30 0 30)) + (1 : Int32))).toNatClampNeg a1) 30 0 30)) + (2 : Int32))).toNatClampNeg ((qp_up (qp_up s 56 0 (((4 : Int32) * (s 30 0 30))).toNatClampNeg (s 30 0 21)) 56 0 ((((4 : Int32) * ((qp_up s 56 0 (((4 : Int32) * (s 30 0 30))).toNatClampNeg (s 30 0 21)) 30 0 30)) + (1 : Int32))).toNatClampNeg a1) 40 0 (a1).toNatClampNeg)) 30 0 30)) + (3 : Int32))).toNatClampNeg (1 : Int32)) 30 0 30 (((qp_up (qp_up (qp_up (qp_up s 56 0 (((4 : Int32) * (s 30 0 30))).toNatClampNeg (s 30 0 21)) 56 0 ((((4 : Int32) * ((qp_up s 56 0 (((4 : Int32) * (s 30 0 30))).toNatClampNeg (s 30 0 21)) 30 0 30)) + (1 : Int32))).toNatClampNeg a1) 56 0 ((((4 : Int32) * ((qp_up (qp_up s 56 0 (((4 : Int32) * (s 30 0 30))).toNatClampNeg (s 30 0 21)) 56 0 ((((4 : Int32) * ((qp_up s 56 0 (((4 : Int32) * (s 30 0 30))).toNatClampNeg (s 30 0 21)) 30 0 30)) + (1 : Int32))).toNatClampNeg a1) 30 0 30)) + (2 : Int32))).toNatClampNeg ((qp_up (qp_up s 56 0 (((4 : Int32) * (s 30 0 30))).toNatClampNeg (s 30 0 21)) 56 0 ((((4 : Int32) * ((qp_up s 56 0 (((4 : Int32) * (s 30 0 30))).toNatClampNeg (s 30 0 21)) 30 0 30)) + (1 : Int32))).toNatClampNeg a1) 40 0 (a1).toNatClampNeg)) 56 0 ((((4 : Int32) * ((qp_up (qp_up (qp_up s 56 0 (((4 : Int32) * (s 30 0 30))).toNatClampNeg (s 30 0 21)) 56 0 ((((4 : Int32) * ((qp_up s 56 0 (((4 : Int32) * (s 30 0 30))).toNatClampNeg (s 30 0 21)) 30 0 30)) + (1 : Int32))).toNatClampNeg a1) 56 0 ((((4 : Int32) * ((qp_up (qp_up s 56 0 (((4 : Int32) * (s 30 0 30))).toNatClampNeg (s 30 0 21)) 56 0 ((((4 : Int32) * ((qp_up s 56 0 (((4 : Int32) * (s 30 0 30))).toNatClampNeg (s 30 0 21)) 30 0 30)) + (1 : Int32))).toNatClampNeg a1) 30 0 30)) + (2 : Int32))).toNatClampNeg ((qp_up (qp_up s 56 0 (((4 : Int32) * (s 30 0 30))).toNatClampNeg (s 30 0 21)) 56 0 ((((4 : Int32) * ((qp_up s 56 0 (((4 : Int32) * (s 30 0 30))).toNatClampNeg (s 30 0 21)) 30 0 30)) + (1 : Int32))).toNatClampNeg a1) 40 0 (a1).toNatClampNeg)) 30 0 30)) + (3 : Int32))).toNatClampNeg (1 : Int32)) 30 0 30) + (1 : Int32)))) else none)) else none) else none) else none) else none))
theorem qe154 (d : Nat) {L : Nat} {xs : Nat → Int32} {x : Int64} {e : Nat → Nat}    {a1 : Int32} {a2 : Int32} {s : qp_S} {r : Int32 × qp_S} (h : qf154  a1 a2 s = some r) : qm_E (qz_ro L xs) (d + 0) 154 (0, qm_ent 154 [vR 30 0, vI a1, vI a2], [], qp_H s x e, (0, 0)) (qf_u r.2 x e) := by
  unfold qf154 at h
  iterate 3 refine qm_E_next rfl ?_
  rcases qr_cond h with ⟨hb, h⟩ | ⟨hb, h⟩
  · refine qr_t hb rfl ?_
    change qm_E _ _ _ (80, [some (vR 30 0), some (vI a1), some (vI a2)], [], qp_H s x e, (0, 0)) _
    iterate 5 refine qm_E_next rfl ?_
    refine qr_put rfl rfl ?_
    change qm_E _ _ _ (90, [some (vR 30 0), some (vI a1), some (vI a2)], [], qp_H (qp_up s 30 0 30 ((s 30 0 30) + (1 : Int32))) x e, (0, 0)) _
    cases h
    exact qr_ret rfl rfl rfl
  · refine qr_f hb rfl ?_
    change qm_E _ _ _ (10, [some (vR 30 0), some (vI a1), some (vI a2)], [], qp_H s x e, (0, 0)) _
    iterate 6 refine qm_E_next rfl ?_
    change qm_E _ _ _ (20, [some (vR 30 0), some (vI a1), some (vI a2)], [vI ((4 : Int32) * (s 30 0 30)), vR 56 0], qp_H s x e, (0, 0)) _
    iterate 2 refine qm_E_next rfl ?_
    obtain ⟨hb, h⟩ := qr_inb h
    refine qr_iastore hb rfl rfl rfl rfl rfl ?_
    change qm_E _ _ _ (25, [some (vR 30 0), some (vI a1), some (vI a2)], [], qp_H (qp_up s 56 0 (((4 : Int32) * (s 30 0 30))).toNatClampNeg (s 30 0 21)) x e, (0, 0)) _
    iterate 6 refine qm_E_next rfl ?_
    change qm_E _ _ _ (35, [some (vR 30 0), some (vI a1), some (vI a2)], [vI ((4 : Int32) * ((qp_up s 56 0 (((4 : Int32) * (s 30 0 30))).toNatClampNeg (s 30 0 21)) 30 0 30)), vR 56 0], qp_H (qp_up s 56 0 (((4 : Int32) * (s 30 0 30))).toNatClampNeg (s 30 0 21)) x e, (0, 0)) _
    iterate 3 refine qm_E_next rfl ?_
    obtain ⟨hb, h⟩ := qr_inb h
    refine qr_iastore hb rfl rfl rfl rfl rfl ?_
    change qm_E _ _ _ (39, [some (vR 30 0), some (vI a1), some (vI a2)], [], qp_H (qp_up (qp_up s 56 0 (((4 : Int32) * (s 30 0 30))).toNatClampNeg (s 30 0 21)) 56 0 ((((4 : Int32) * ((qp_up s 56 0 (((4 : Int32) * (s 30 0 30))).toNatClampNeg (s 30 0 21)) 30 0 30)) + (1 : Int32))).toNatClampNeg a1) x e, (0, 0)) _
    iterate 6 refine qm_E_next rfl ?_
    change qm_E _ _ _ (49, [some (vR 30 0), some (vI a1), some (vI a2)], [vI ((4 : Int32) * ((qp_up (qp_up s 56 0 (((4 : Int32) * (s 30 0 30))).toNatClampNeg (s 30 0 21)) 56 0 ((((4 : Int32) * ((qp_up s 56 0 (((4 : Int32) * (s 30 0 30))).toNatClampNeg (s 30 0 21)) 30 0 30)) + (1 : Int32))).toNatClampNeg a1) 30 0 30)), vR 56 0], qp_H (qp_up (qp_up s 56 0 (((4 : Int32) * (s 30 0 30))).toNatClampNeg (s 30 0 21)) 56 0 ((((4 : Int32) * ((qp_up s 56 0 (((4 : Int32) * (s 30 0 30))).toNatClampNeg (s 30 0 21)) 30 0 30)) + (1 : Int32))).toNatClampNeg a1) x e, (0, 0)) _
    iterate 5 refine qm_E_next rfl ?_
    obtain ⟨hb, h⟩ := qr_inb h
    refine qr_iaload hb rfl rfl rfl rfl ?_
    change qm_E _ _ _ (57, [some (vR 30 0), some (vI a1), some (vI a2)], [vI ((qp_up (qp_up s 56 0 (((4 : Int32) * (s 30 0 30))).toNatClampNeg (s 30 0 21)) 56 0 ((((4 : Int32) * ((qp_up s 56 0 (((4 : Int32) * (s 30 0 30))).toNatClampNeg (s 30 0 21)) 30 0 30)) + (1 : Int32))).toNatClampNeg a1) 40 0 (a1).toNatClampNeg), vI (((4 : Int32) * ((qp_up (qp_up s 56 0 (((4 : Int32) * (s 30 0 30))).toNatClampNeg (s 30 0 21)) 56 0 ((((4 : Int32) * ((qp_up s 56 0 (((4 : Int32) * (s 30 0 30))).toNatClampNeg (s 30 0 21)) 30 0 30)) + (1 : Int32))).toNatClampNeg a1) 30 0 30)) + (2 : Int32)), vR 56 0], qp_H (qp_up (qp_up s 56 0 (((4 : Int32) * (s 30 0 30))).toNatClampNeg (s 30 0 21)) 56 0 ((((4 : Int32) * ((qp_up s 56 0 (((4 : Int32) * (s 30 0 30))).toNatClampNeg (s 30 0 21)) 30 0 30)) + (1 : Int32))).toNatClampNeg a1) x e, (0, 0)) _
    obtain ⟨hb, h⟩ := qr_inb h
    refine qr_iastore hb rfl rfl rfl rfl rfl ?_
    change qm_E _ _ _ (58, [some (vR 30 0), some (vI a1), some (vI a2)], [], qp_H (qp_up (qp_up (qp_up s 56 0 (((4 : Int32) * (s 30 0 30))).toNatClampNeg (s 30 0 21)) 56 0 ((((4 : Int32) * ((qp_up s 56 0 (((4 : Int32) * (s 30 0 30))).toNatClampNeg (s 30 0 21)) 30 0 30)) + (1 : Int32))).toNatClampNeg a1) 56 0 ((((4 : Int32) * ((qp_up (qp_up s 56 0 (((4 : Int32) * (s 30 0 30))).toNatClampNeg (s 30 0 21)) 56 0 ((((4 : Int32) * ((qp_up s 56 0 (((4 : Int32) * (s 30 0 30))).toNatClampNeg (s 30 0 21)) 30 0 30)) + (1 : Int32))).toNatClampNeg a1) 30 0 30)) + (2 : Int32))).toNatClampNeg ((qp_up (qp_up s 56 0 (((4 : Int32) * (s 30 0 30))).toNatClampNeg (s 30 0 21)) 56 0 ((((4 : Int32) * ((qp_up s 56 0 (((4 : Int32) * (s 30 0 30))).toNatClampNeg (s 30 0 21)) 30 0 30)) + (1 : Int32))).toNatClampNeg a1) 40 0 (a1).toNatClampNeg)) x e, (0, 0)) _
    iterate 6 refine qm_E_next rfl ?_
    change qm_E _ _ _ (68, [some (vR 30 0), some (vI a1), some (vI a2)], [vI ((4 : Int32) * ((qp_up (qp_up (qp_up s 56 0 (((4 : Int32) * (s 30 0 30))).toNatClampNeg (s 30 0 21)) 56 0 ((((4 : Int32) * ((qp_up s 56 0 (((4 : Int32) * (s 30 0 30))).toNatClampNeg (s 30 0 21)) 30 0 30)) + (1 : Int32))).toNatClampNeg a1) 56 0 ((((4 : Int32) * ((qp_up (qp_up s 56 0 (((4 : Int32) * (s 30 0 30))).toNatClampNeg (s 30 0 21)) 56 0 ((((4 : Int32) * ((qp_up s 56 0 (((4 : Int32) * (s 30 0 30))).toNatClampNeg (s 30 0 21)) 30 0 30)) + (1 : Int32))).toNatClampNeg a1) 30 0 30)) + (2 : Int32))).toNatClampNeg ((qp_up (qp_up s 56 0 (((4 : Int32) * (s 30 0 30))).toNatClampNeg (s 30 0 21)) 56 0 ((((4 : Int32) * ((qp_up s 56 0 (((4 : Int32) * (s 30 0 30))).toNatClampNeg (s 30 0 21)) 30 0 30)) + (1 : Int32))).toNatClampNeg a1) 40 0 (a1).toNatClampNeg)) 30 0 30)), vR 56 0], qp_H (qp_up (qp_up (qp_up s 56 0 (((4 : Int32) * (s 30 0 30))).toNatClampNeg (s 30 0 21)) 56 0 ((((4 : Int32) * ((qp_up s 56 0 (((4 : Int32) * (s 30 0 30))).toNatClampNeg (s 30 0 21)) 30 0 30)) + (1 : Int32))).toNatClampNeg a1) 56 0 ((((4 : Int32) * ((qp_up (qp_up s 56 0 (((4 : Int32) * (s 30 0 30))).toNatClampNeg (s 30 0 21)) 56 0 ((((4 : Int32) * ((qp_up s 56 0 (((4 : Int32) * (s 30 0 30))).toNatClampNeg (s 30 0 21)) 30 0 30)) + (1 : Int32))).toNatClampNeg a1) 30 0 30)) + (2 : Int32))).toNatClampNeg ((qp_up (qp_up s 56 0 (((4 : Int32) * (s 30 0 30))).toNatClampNeg (s 30 0 21)) 56 0 ((((4 : Int32) * ((qp_up s 56 0 (((4 : Int32) * (s 30 0 30))).toNatClampNeg (s 30 0 21)) 30 0 30)) + (1 : Int32))).toNatClampNeg a1) 40 0 (a1).toNatClampNeg)) x e, (0, 0)) _
    iterate 3 refine qm_E_next rfl ?_
    rcases qr_cond h with ⟨hb, h⟩ | ⟨hb, h⟩
    · refine qr_t hb rfl ?_
      change qm_E _ _ _ (78, [some (vR 30 0), some (vI a1), some (vI a2)], [vI (((4 : Int32) * ((qp_up (qp_up (qp_up s 56 0 (((4 : Int32) * (s 30 0 30))).toNatClampNeg (s 30 0 21)) 56 0 ((((4 : Int32) * ((qp_up s 56 0 (((4 : Int32) * (s 30 0 30))).toNatClampNeg (s 30 0 21)) 30 0 30)) + (1 : Int32))).toNatClampNeg a1) 56 0 ((((4 : Int32) * ((qp_up (qp_up s 56 0 (((4 : Int32) * (s 30 0 30))).toNatClampNeg (s 30 0 21)) 56 0 ((((4 : Int32) * ((qp_up s 56 0 (((4 : Int32) * (s 30 0 30))).toNatClampNeg (s 30 0 21)) 30 0 30)) + (1 : Int32))).toNatClampNeg a1) 30 0 30)) + (2 : Int32))).toNatClampNeg ((qp_up (qp_up s 56 0 (((4 : Int32) * (s 30 0 30))).toNatClampNeg (s 30 0 21)) 56 0 ((((4 : Int32) * ((qp_up s 56 0 (((4 : Int32) * (s 30 0 30))).toNatClampNeg (s 30 0 21)) 30 0 30)) + (1 : Int32))).toNatClampNeg a1) 40 0 (a1).toNatClampNeg)) 30 0 30)) + (3 : Int32)), vR 56 0], qp_H (qp_up (qp_up (qp_up s 56 0 (((4 : Int32) * (s 30 0 30))).toNatClampNeg (s 30 0 21)) 56 0 ((((4 : Int32) * ((qp_up s 56 0 (((4 : Int32) * (s 30 0 30))).toNatClampNeg (s 30 0 21)) 30 0 30)) + (1 : Int32))).toNatClampNeg a1) 56 0 ((((4 : Int32) * ((qp_up (qp_up s 56 0 (((4 : Int32) * (s 30 0 30))).toNatClampNeg (s 30 0 21)) 56 0 ((((4 : Int32) * ((qp_up s 56 0 (((4 : Int32) * (s 30 0 30))).toNatClampNeg (s 30 0 21)) 30 0 30)) + (1 : Int32))).toNatClampNeg a1) 30 0 30)) + (2 : Int32))).toNatClampNeg ((qp_up (qp_up s 56 0 (((4 : Int32) * (s 30 0 30))).toNatClampNeg (s 30 0 21)) 56 0 ((((4 : Int32) * ((qp_up s 56 0 (((4 : Int32) * (s 30 0 30))).toNatClampNeg (s 30 0 21)) 30 0 30)) + (1 : Int32))).toNatClampNeg a1) 40 0 (a1).toNatClampNeg)) x e, (0, 0)) _
      iterate 1 refine qm_E_next rfl ?_
      obtain ⟨hb, h⟩ := qr_inb h
      refine qr_iastore hb rfl rfl rfl rfl rfl ?_
      change qm_E _ _ _ (80, [some (vR 30 0), some (vI a1), some (vI a2)], [], qp_H (qp_up (qp_up (qp_up (qp_up s 56 0 (((4 : Int32) * (s 30 0 30))).toNatClampNeg (s 30 0 21)) 56 0 ((((4 : Int32) * ((qp_up s 56 0 (((4 : Int32) * (s 30 0 30))).toNatClampNeg (s 30 0 21)) 30 0 30)) + (1 : Int32))).toNatClampNeg a1) 56 0 ((((4 : Int32) * ((qp_up (qp_up s 56 0 (((4 : Int32) * (s 30 0 30))).toNatClampNeg (s 30 0 21)) 56 0 ((((4 : Int32) * ((qp_up s 56 0 (((4 : Int32) * (s 30 0 30))).toNatClampNeg (s 30 0 21)) 30 0 30)) + (1 : Int32))).toNatClampNeg a1) 30 0 30)) + (2 : Int32))).toNatClampNeg ((qp_up (qp_up s 56 0 (((4 : Int32) * (s 30 0 30))).toNatClampNeg (s 30 0 21)) 56 0 ((((4 : Int32) * ((qp_up s 56 0 (((4 : Int32) * (s 30 0 30))).toNatClampNeg (s 30 0 21)) 30 0 30)) + (1 : Int32))).toNatClampNeg a1) 40 0 (a1).toNatClampNeg)) 56 0 ((((4 : Int32) * ((qp_up (qp_up (qp_up s 56 0 (((4 : Int32) * (s 30 0 30))).toNatClampNeg (s 30 0 21)) 56 0 ((((4 : Int32) * ((qp_up s 56 0 (((4 : Int32) * (s 30 0 30))).toNatClampNeg (s 30 0 21)) 30 0 30)) + (1 : Int32))).toNatClampNeg a1) 56 0 ((((4 : Int32) * ((qp_up (qp_up s 56 0 (((4 : Int32) * (s 30 0 30))).toNatClampNeg (s 30 0 21)) 56 0 ((((4 : Int32) * ((qp_up s 56 0 (((4 : Int32) * (s 30 0 30))).toNatClampNeg (s 30 0 21)) 30 0 30)) + (1 : Int32))).toNatClampNeg a1) 30 0 30)) + (2 : Int32))).toNatClampNeg ((qp_up (qp_up s 56 0 (((4 : Int32) * (s 30 0 30))).toNatClampNeg (s 30 0 21)) 56 0 ((((4 : Int32) * ((qp_up s 56 0 (((4 : Int32) * (s 30 0 30))).toNatClampNeg (s 30 0 21)) 30 0 30)) + (1 : Int32))).toNatClampNeg a1) 40 0 (a1).toNatClampNeg)) 30 0 30)) + (3 : Int32))).toNatClampNeg (0 : Int32)) x e, (0, 0)) _
      iterate 5 refine qm_E_next rfl ?_
      refine qr_put rfl rfl ?_
      change qm_E _ _ _ (90, [some (vR 30 0), some (vI a1), some (vI a2)], [], qp_H (qp_up (qp_up (qp_up (qp_up (qp_up s 56 0 (((4 : Int32) * (s 30 0 30))).toNatClampNeg (s 30 0 21)) 56 0 ((((4 : Int32) * ((qp_up s 56 0 (((4 : Int32) * (s 30 0 30))).toNatClampNeg (s 30 0 21)) 30 0 30)) + (1 : Int32))).toNatClampNeg a1) 56 0 ((((4 : Int32) * ((qp_up (qp_up s 56 0 (((4 : Int32) * (s 30 0 30))).toNatClampNeg (s 30 0 21)) 56 0 ((((4 : Int32) * ((qp_up s 56 0 (((4 : Int32) * (s 30 0 30))).toNatClampNeg (s 30 0 21)) 30 0 30)) + (1 : Int32))).toNatClampNeg a1) 30 0 30)) + (2 : Int32))).toNatClampNeg ((qp_up (qp_up s 56 0 (((4 : Int32) * (s 30 0 30))).toNatClampNeg (s 30 0 21)) 56 0 ((((4 : Int32) * ((qp_up s 56 0 (((4 : Int32) * (s 30 0 30))).toNatClampNeg (s 30 0 21)) 30 0 30)) + (1 : Int32))).toNatClampNeg a1) 40 0 (a1).toNatClampNeg)) 56 0 ((((4 : Int32) * ((qp_up (qp_up (qp_up s 56 0 (((4 : Int32) * (s 30 0 30))).toNatClampNeg (s 30 0 21)) 56 0 ((((4 : Int32) * ((qp_up s 56 0 (((4 : Int32) * (s 30 0 30))).toNatClampNeg (s 30 0 21)) 30 0 30)) + (1 : Int32))).toNatClampNeg a1) 56 0 ((((4 : Int32) * ((qp_up (qp_up s 56 0 (((4 : Int32) * (s 30 0 30))).toNatClampNeg (s 30 0 21)) 56 0 ((((4 : Int32) * ((qp_up s 56 0 (((4 : Int32) * (s 30 0 30))).toNatClampNeg (s 30 0 21)) 30 0 30)) + (1 : Int32))).toNatClampNeg a1) 30 0 30)) + (2 : Int32))).toNatClampNeg ((qp_up (qp_up s 56 0 (((4 : Int32) * (s 30 0 30))).toNatClampNeg (s 30 0 21)) 56 0 ((((4 : Int32) * ((qp_up s 56 0 (((4 : Int32) * (s 30 0 30))).toNatClampNeg (s 30 0 21)) 30 0 30)) + (1 : Int32))).toNatClampNeg a1) 40 0 (a1).toNatClampNeg)) 30 0 30)) + (3 : Int32))).toNatClampNeg (0 : Int32)) 30 0 30 (((qp_up (qp_up (qp_up (qp_up s 56 0 (((4 : Int32) * (s 30 0 30))).toNatClampNeg (s 30 0 21)) 56 0 ((((4 : Int32) * ((qp_up s 56 0 (((4 : Int32) * (s 30 0 30))).toNatClampNeg (s 30 0 21)) 30 0 30)) + (1 : Int32))).toNatClampNeg a1) 56 0 ((((4 : Int32) * ((qp_up (qp_up s 56 0 (((4 : Int32) * (s 30 0 30))).toNatClampNeg (s 30 0 21)) 56 0 ((((4 : Int32) * ((qp_up s 56 0 (((4 : Int32) * (s 30 0 30))).toNatClampNeg (s 30 0 21)) 30 0 30)) + (1 : Int32))).toNatClampNeg a1) 30 0 30)) + (2 : Int32))).toNatClampNeg ((qp_up (qp_up s 56 0 (((4 : Int32) * (s 30 0 30))).toNatClampNeg (s 30 0 21)) 56 0 ((((4 : Int32) * ((qp_up s 56 0 (((4 : Int32) * (s 30 0 30))).toNatClampNeg (s 30 0 21)) 30 0 30)) + (1 : Int32))).toNatClampNeg a1) 40 0 (a1).toNatClampNeg)) 56 0 ((((4 : Int32) * ((qp_up (qp_up (qp_up s 56 0 (((4 : Int32) * (s 30 0 30))).toNatClampNeg (s 30 0 21)) 56 0 ((((4 : Int32) * ((qp_up s 56 0 (((4 : Int32) * (s 30 0 30))).toNatClampNeg (s 30 0 21)) 30 0 30)) + (1 : Int32))).toNatClampNeg a1) 56 0 ((((4 : Int32) * ((qp_up (qp_up s 56 0 (((4 : Int32) * (s 30 0 30))).toNatClampNeg (s 30 0 21)) 56 0 ((((4 : Int32) * ((qp_up s 56 0 (((4 : Int32) * (s 30 0 30))).toNatClampNeg (s 30 0 21)) 30 0 30)) + (1 : Int32))).toNatClampNeg a1) 30 0 30)) + (2 : Int32))).toNatClampNeg ((qp_up (qp_up s 56 0 (((4 : Int32) * (s 30 0 30))).toNatClampNeg (s 30 0 21)) 56 0 ((((4 : Int32) * ((qp_up s 56 0 (((4 : Int32) * (s 30 0 30))).toNatClampNeg (s 30 0 21)) 30 0 30)) + (1 : Int32))).toNatClampNeg a1) 40 0 (a1).toNatClampNeg)) 30 0 30)) + (3 : Int32))).toNatClampNeg (0 : Int32)) 30 0 30) + (1 : Int32))) x e, (0, 0)) _
      cases h
      exact qr_ret rfl rfl rfl
    · refine qr_f hb rfl ?_
      change qm_E _ _ _ (74, [some (vR 30 0), some (vI a1), some (vI a2)], [vI (((4 : Int32) * ((qp_up (qp_up (qp_up s 56 0 (((4 : Int32) * (s 30 0 30))).toNatClampNeg (s 30 0 21)) 56 0 ((((4 : Int32) * ((qp_up s 56 0 (((4 : Int32) * (s 30 0 30))).toNatClampNeg (s 30 0 21)) 30 0 30)) + (1 : Int32))).toNatClampNeg a1) 56 0 ((((4 : Int32) * ((qp_up (qp_up s 56 0 (((4 : Int32) * (s 30 0 30))).toNatClampNeg (s 30 0 21)) 56 0 ((((4 : Int32) * ((qp_up s 56 0 (((4 : Int32) * (s 30 0 30))).toNatClampNeg (s 30 0 21)) 30 0 30)) + (1 : Int32))).toNatClampNeg a1) 30 0 30)) + (2 : Int32))).toNatClampNeg ((qp_up (qp_up s 56 0 (((4 : Int32) * (s 30 0 30))).toNatClampNeg (s 30 0 21)) 56 0 ((((4 : Int32) * ((qp_up s 56 0 (((4 : Int32) * (s 30 0 30))).toNatClampNeg (s 30 0 21)) 30 0 30)) + (1 : Int32))).toNatClampNeg a1) 40 0 (a1).toNatClampNeg)) 30 0 30)) + (3 : Int32)), vR 56 0], qp_H (qp_up (qp_up (qp_up s 56 0 (((4 : Int32) * (s 30 0 30))).toNatClampNeg (s 30 0 21)) 56 0 ((((4 : Int32) * ((qp_up s 56 0 (((4 : Int32) * (s 30 0 30))).toNatClampNeg (s 30 0 21)) 30 0 30)) + (1 : Int32))).toNatClampNeg a1) 56 0 ((((4 : Int32) * ((qp_up (qp_up s 56 0 (((4 : Int32) * (s 30 0 30))).toNatClampNeg (s 30 0 21)) 56 0 ((((4 : Int32) * ((qp_up s 56 0 (((4 : Int32) * (s 30 0 30))).toNatClampNeg (s 30 0 21)) 30 0 30)) + (1 : Int32))).toNatClampNeg a1) 30 0 30)) + (2 : Int32))).toNatClampNeg ((qp_up (qp_up s 56 0 (((4 : Int32) * (s 30 0 30))).toNatClampNeg (s 30 0 21)) 56 0 ((((4 : Int32) * ((qp_up s 56 0 (((4 : Int32) * (s 30 0 30))).toNatClampNeg (s 30 0 21)) 30 0 30)) + (1 : Int32))).toNatClampNeg a1) 40 0 (a1).toNatClampNeg)) x e, (0, 0)) _
      iterate 2 refine qm_E_next rfl ?_
      obtain ⟨hb, h⟩ := qr_inb h
      refine qr_iastore hb rfl rfl rfl rfl rfl ?_
      change qm_E _ _ _ (80, [some (vR 30 0), some (vI a1), some (vI a2)], [], qp_H (qp_up (qp_up (qp_up (qp_up s 56 0 (((4 : Int32) * (s 30 0 30))).toNatClampNeg (s 30 0 21)) 56 0 ((((4 : Int32) * ((qp_up s 56 0 (((4 : Int32) * (s 30 0 30))).toNatClampNeg (s 30 0 21)) 30 0 30)) + (1 : Int32))).toNatClampNeg a1) 56 0 ((((4 : Int32) * ((qp_up (qp_up s 56 0 (((4 : Int32) * (s 30 0 30))).toNatClampNeg (s 30 0 21)) 56 0 ((((4 : Int32) * ((qp_up s 56 0 (((4 : Int32) * (s 30 0 30))).toNatClampNeg (s 30 0 21)) 30 0 30)) + (1 : Int32))).toNatClampNeg a1) 30 0 30)) + (2 : Int32))).toNatClampNeg ((qp_up (qp_up s 56 0 (((4 : Int32) * (s 30 0 30))).toNatClampNeg (s 30 0 21)) 56 0 ((((4 : Int32) * ((qp_up s 56 0 (((4 : Int32) * (s 30 0 30))).toNatClampNeg (s 30 0 21)) 30 0 30)) + (1 : Int32))).toNatClampNeg a1) 40 0 (a1).toNatClampNeg)) 56 0 ((((4 : Int32) * ((qp_up (qp_up (qp_up s 56 0 (((4 : Int32) * (s 30 0 30))).toNatClampNeg (s 30 0 21)) 56 0 ((((4 : Int32) * ((qp_up s 56 0 (((4 : Int32) * (s 30 0 30))).toNatClampNeg (s 30 0 21)) 30 0 30)) + (1 : Int32))).toNatClampNeg a1) 56 0 ((((4 : Int32) * ((qp_up (qp_up s 56 0 (((4 : Int32) * (s 30 0 30))).toNatClampNeg (s 30 0 21)) 56 0 ((((4 : Int32) * ((qp_up s 56 0 (((4 : Int32) * (s 30 0 30))).toNatClampNeg (s 30 0 21)) 30 0 30)) + (1 : Int32))).toNatClampNeg a1) 30 0 30)) + (2 : Int32))).toNatClampNeg ((qp_up (qp_up s 56 0 (((4 : Int32) * (s 30 0 30))).toNatClampNeg (s 30 0 21)) 56 0 ((((4 : Int32) * ((qp_up s 56 0 (((4 : Int32) * (s 30 0 30))).toNatClampNeg (s 30 0 21)) 30 0 30)) + (1 : Int32))).toNatClampNeg a1) 40 0 (a1).toNatClampNeg)) 30 0 30)) + (3 : Int32))).toNatClampNeg (1 : Int32)) x e, (0, 0)) _
      iterate 5 refine qm_E_next rfl ?_
      refine qr_put rfl rfl ?_
      change qm_E _ _ _ (90, [some (vR 30 0), some (vI a1), some (vI a2)], [], qp_H (qp_up (qp_up (qp_up (qp_up (qp_up s 56 0 (((4 : Int32) * (s 30 0 30))).toNatClampNeg (s 30 0 21)) 56 0 ((((4 : Int32) * ((qp_up s 56 0 (((4 : Int32) * (s 30 0 30))).toNatClampNeg (s 30 0 21)) 30 0 30)) + (1 : Int32))).toNatClampNeg a1) 56 0 ((((4 : Int32) * ((qp_up (qp_up s 56 0 (((4 : Int32) * (s 30 0 30))).toNatClampNeg (s 30 0 21)) 56 0 ((((4 : Int32) * ((qp_up s 56 0 (((4 : Int32) * (s 30 0 30))).toNatClampNeg (s 30 0 21)) 30 0 30)) + (1 : Int32))).toNatClampNeg a1) 30 0 30)) + (2 : Int32))).toNatClampNeg ((qp_up (qp_up s 56 0 (((4 : Int32) * (s 30 0 30))).toNatClampNeg (s 30 0 21)) 56 0 ((((4 : Int32) * ((qp_up s 56 0 (((4 : Int32) * (s 30 0 30))).toNatClampNeg (s 30 0 21)) 30 0 30)) + (1 : Int32))).toNatClampNeg a1) 40 0 (a1).toNatClampNeg)) 56 0 ((((4 : Int32) * ((qp_up (qp_up (qp_up s 56 0 (((4 : Int32) * (s 30 0 30))).toNatClampNeg (s 30 0 21)) 56 0 ((((4 : Int32) * ((qp_up s 56 0 (((4 : Int32) * (s 30 0 30))).toNatClampNeg (s 30 0 21)) 30 0 30)) + (1 : Int32))).toNatClampNeg a1) 56 0 ((((4 : Int32) * ((qp_up (qp_up s 56 0 (((4 : Int32) * (s 30 0 30))).toNatClampNeg (s 30 0 21)) 56 0 ((((4 : Int32) * ((qp_up s 56 0 (((4 : Int32) * (s 30 0 30))).toNatClampNeg (s 30 0 21)) 30 0 30)) + (1 : Int32))).toNatClampNeg a1) 30 0 30)) + (2 : Int32))).toNatClampNeg ((qp_up (qp_up s 56 0 (((4 : Int32) * (s 30 0 30))).toNatClampNeg (s 30 0 21)) 56 0 ((((4 : Int32) * ((qp_up s 56 0 (((4 : Int32) * (s 30 0 30))).toNatClampNeg (s 30 0 21)) 30 0 30)) + (1 : Int32))).toNatClampNeg a1) 40 0 (a1).toNatClampNeg)) 30 0 30)) + (3 : Int32))).toNatClampNeg (1 : Int32)) 30 0 30 (((qp_up (qp_up (qp_up (qp_up s 56 0 (((4 : Int32) * (s 30 0 30))).toNatClampNeg (s 30 0 21)) 56 0 ((((4 : Int32) * ((qp_up s 56 0 (((4 : Int32) * (s 30 0 30))).toNatClampNeg (s 30 0 21)) 30 0 30)) + (1 : Int32))).toNatClampNeg a1) 56 0 ((((4 : Int32) * ((qp_up (qp_up s 56 0 (((4 : Int32) * (s 30 0 30))).toNatClampNeg (s 30 0 21)) 56 0 ((((4 : Int32) * ((qp_up s 56 0 (((4 : Int32) * (s 30 0 30))).toNatClampNeg (s 30 0 21)) 30 0 30)) + (1 : Int32))).toNatClampNeg a1) 30 0 30)) + (2 : Int32))).toNatClampNeg ((qp_up (qp_up s 56 0 (((4 : Int32) * (s 30 0 30))).toNatClampNeg (s 30 0 21)) 56 0 ((((4 : Int32) * ((qp_up s 56 0 (((4 : Int32) * (s 30 0 30))).toNatClampNeg (s 30 0 21)) 30 0 30)) + (1 : Int32))).toNatClampNeg a1) 40 0 (a1).toNatClampNeg)) 56 0 ((((4 : Int32) * ((qp_up (qp_up (qp_up s 56 0 (((4 : Int32) * (s 30 0 30))).toNatClampNeg (s 30 0 21)) 56 0 ((((4 : Int32) * ((qp_up s 56 0 (((4 : Int32) * (s 30 0 30))).toNatClampNeg (s 30 0 21)) 30 0 30)) + (1 : Int32))).toNatClampNeg a1) 56 0 ((((4 : Int32) * ((qp_up (qp_up s 56 0 (((4 : Int32) * (s 30 0 30))).toNatClampNeg (s 30 0 21)) 56 0 ((((4 : Int32) * ((qp_up s 56 0 (((4 : Int32) * (s 30 0 30))).toNatClampNeg (s 30 0 21)) 30 0 30)) + (1 : Int32))).toNatClampNeg a1) 30 0 30)) + (2 : Int32))).toNatClampNeg ((qp_up (qp_up s 56 0 (((4 : Int32) * (s 30 0 30))).toNatClampNeg (s 30 0 21)) 56 0 ((((4 : Int32) * ((qp_up s 56 0 (((4 : Int32) * (s 30 0 30))).toNatClampNeg (s 30 0 21)) 30 0 30)) + (1 : Int32))).toNatClampNeg a1) 40 0 (a1).toNatClampNeg)) 30 0 30)) + (3 : Int32))).toNatClampNeg (1 : Int32)) 30 0 30) + (1 : Int32))) x e, (0, 0)) _
      cases h
      exact qr_ret rfl rfl rfl
/-! PeriodKernelModel publish -/
def qf147_50  : Nat → Int32 → Int32 → qp_S → Option (Int32 × qp_S)
  | 0, _, _, _ => none
  | n + 1, a1, a2, s => (bif qm_cmp .ge a2 (6 : Int32) then some (0, s) else (if qm_inb a2 6 = true then (if qm_inb (((6 : Int32) * a1) + a2) 48 = true then (if qm_inb (((6 : Int32) * a1) + a2) 48 = true then (bif qm_cmp .eq ((qp_up s 36 0 ((((6 : Int32) * a1) + a2)).toNatClampNeg (s 59 0 (a2).toNatClampNeg)) 34 0 ((((6 : Int32) * a1) + a2)).toNatClampNeg) (1 : Int32) then (if qm_inb (((6 : Int32) * a1) + a2) 48 = true then (if qm_inb (((6 : Int32) * a1) + a2) 48 = true then (if qm_inb a2 6 = true then ((qf153 ((qp_up s 36 0 ((((6 : Int32) * a1) + a2)).toNatClampNeg (s 59 0 (a2).toNatClampNeg)) 35 0 ((((6 : Int32) * a1) + a2)).toNatClampNeg) ((qp_up s 36 0 ((((6 : Int32) * a1) + a2)).toNatClampNeg (s 59 0 (a2).toNatClampNeg)) 59 0 (a2).toNatClampNeg) (qp_up s 36 0 ((((6 : Int32) * a1) + a2)).toNatClampNeg (s 59 0 (a2).toNatClampNeg))).bind fun q2 => (if qm_inb ((qp_up s 36 0 ((((6 : Int32) * a1) + a2)).toNatClampNeg (s 59 0 (a2).toNatClampNeg)) 35 0 ((((6 : Int32) * a1) + a2)).toNatClampNeg) 16 = true then (if qm_inb (((6 : Int32) * a1) + a2) 48 = true then (if qm_inb a1 8 = true then ((qf154 ((qp_up (qp_up s 36 0 ((((6 : Int32) * a1) + a2)).toNatClampNeg (s 59 0 (a2).toNatClampNeg)) 40 0 (((qp_up s 36 0 ((((6 : Int32) * a1) + a2)).toNatClampNeg (s 59 0 (a2).toNatClampNeg)) 35 0 ((((6 : Int32) * a1) + a2)).toNatClampNeg)).toNatClampNeg q2) 35 0 ((((6 : Int32) * a1) + a2)).toNatClampNeg) ((qp_up (qp_up s 36 0 ((((6 : Int32) * a1) + a2)).toNatClampNeg (s 59 0 (a2).toNatClampNeg)) 40 0 (((qp_up s 36 0 ((((6 : Int32) * a1) + a2)).toNatClampNeg (s 59 0 (a2).toNatClampNeg)) 35 0 ((((6 : Int32) * a1) + a2)).toNatClampNeg)).toNatClampNeg q2) 55 0 (a1).toNatClampNeg) (qp_up (qp_up s 36 0 ((((6 : Int32) * a1) + a2)).toNatClampNeg (s 59 0 (a2).toNatClampNeg)) 40 0 (((qp_up s 36 0 ((((6 : Int32) * a1) + a2)).toNatClampNeg (s 59 0 (a2).toNatClampNeg)) 35 0 ((((6 : Int32) * a1) + a2)).toNatClampNeg)).toNatClampNeg q2)).bind fun q3 => qf147_50  n a1 (a2 + (1 : Int32)) q3.2) else none) else none) else none)) else none) else none) else none) else qf147_50  n a1 (a2 + (1 : Int32)) (qp_up s 36 0 ((((6 : Int32) * a1) + a2)).toNatClampNeg (s 59 0 (a2).toNatClampNeg))) else none) else none) else none))
theorem qe147_50 (d : Nat) {L : Nat} {xs : Nat → Int32} {x : Int64} {e : Nat → Nat}   : ∀ {n : Nat} {u3 : Option qm_V} {a1 : Int32} {a2 : Int32} {s : qp_S} {r : Int32 × qp_S}, qf147_50  n a1 a2 s = some r → qm_E (qz_ro L xs) (d + 3) 147 (50, [some (vR 30 0), some (vI a1), some (vI a2), u3], [], qp_H s x e, (0, 0)) (qf_u r.2 x e) := by
  intro n
  induction n with
  | zero => intro u3 a1 a2 s r h; cases h
  | succ n ih =>
    intro u3 a1 a2 s r h
    unfold qf147_50 at h
    iterate 2 refine qm_E_next rfl ?_
    rcases qr_cond h with ⟨hb, h⟩ | ⟨hb, h⟩
    · refine qr_t hb rfl ?_
      change qm_E _ _ _ (137, [some (vR 30 0), some (vI a1), some (vI a2), u3], [], qp_H s x e, (0, 0)) _
      cases h
      exact qr_ret rfl rfl rfl
    · refine qr_f hb rfl ?_
      change qm_E _ _ _ (56, [some (vR 30 0), some (vI a1), some (vI a2), u3], [], qp_H s x e, (0, 0)) _
      iterate 6 refine qm_E_next rfl ?_
      change qm_E _ _ _ (63, [some (vR 30 0), some (vI a1), some (vI a2), some (vI (((6 : Int32) * a1) + a2))], [], qp_H s x e, (0, 0)) _
      iterate 6 refine qm_E_next rfl ?_
      change qm_E _ _ _ (73, [some (vR 30 0), some (vI a1), some (vI a2), some (vI (((6 : Int32) * a1) + a2))], [vI a2, vR 59 0, vI (((6 : Int32) * a1) + a2), vR 36 0], qp_H s x e, (0, 0)) _
      obtain ⟨hb, h⟩ := qr_inb h
      refine qr_iaload hb rfl rfl rfl rfl ?_
      change qm_E _ _ _ (74, [some (vR 30 0), some (vI a1), some (vI a2), some (vI (((6 : Int32) * a1) + a2))], [vI (s 59 0 (a2).toNatClampNeg), vI (((6 : Int32) * a1) + a2), vR 36 0], qp_H s x e, (0, 0)) _
      obtain ⟨hb, h⟩ := qr_inb h
      refine qr_iastore hb rfl rfl rfl rfl rfl ?_
      change qm_E _ _ _ (75, [some (vR 30 0), some (vI a1), some (vI a2), some (vI (((6 : Int32) * a1) + a2))], [], qp_H (qp_up s 36 0 ((((6 : Int32) * a1) + a2)).toNatClampNeg (s 59 0 (a2).toNatClampNeg)) x e, (0, 0)) _
      iterate 3 refine qm_E_next rfl ?_
      obtain ⟨hb, h⟩ := qr_inb h
      refine qr_iaload hb rfl rfl rfl rfl ?_
      change qm_E _ _ _ (81, [some (vR 30 0), some (vI a1), some (vI a2), some (vI (((6 : Int32) * a1) + a2))], [vI ((qp_up s 36 0 ((((6 : Int32) * a1) + a2)).toNatClampNeg (s 59 0 (a2).toNatClampNeg)) 34 0 ((((6 : Int32) * a1) + a2)).toNatClampNeg)], qp_H (qp_up s 36 0 ((((6 : Int32) * a1) + a2)).toNatClampNeg (s 59 0 (a2).toNatClampNeg)) x e, (0, 0)) _
      iterate 1 refine qm_E_next rfl ?_
      rcases qr_cond h with ⟨hb, h⟩ | ⟨hb, h⟩
      · refine qr_t hb rfl ?_
        change qm_E _ _ _ (88, [some (vR 30 0), some (vI a1), some (vI a2), some (vI (((6 : Int32) * a1) + a2))], [], qp_H (qp_up s 36 0 ((((6 : Int32) * a1) + a2)).toNatClampNeg (s 59 0 (a2).toNatClampNeg)) x e, (0, 0)) _
        iterate 5 refine qm_E_next rfl ?_
        obtain ⟨hb, h⟩ := qr_inb h
        refine qr_iaload hb rfl rfl rfl rfl ?_
        change qm_E _ _ _ (98, [some (vR 30 0), some (vI a1), some (vI a2), some (vI (((6 : Int32) * a1) + a2))], [vI ((qp_up s 36 0 ((((6 : Int32) * a1) + a2)).toNatClampNeg (s 59 0 (a2).toNatClampNeg)) 35 0 ((((6 : Int32) * a1) + a2)).toNatClampNeg), vR 40 0], qp_H (qp_up s 36 0 ((((6 : Int32) * a1) + a2)).toNatClampNeg (s 59 0 (a2).toNatClampNeg)) x e, (0, 0)) _
        iterate 4 refine qm_E_next rfl ?_
        obtain ⟨hb, h⟩ := qr_inb h
        refine qr_iaload hb rfl rfl rfl rfl ?_
        change qm_E _ _ _ (105, [some (vR 30 0), some (vI a1), some (vI a2), some (vI (((6 : Int32) * a1) + a2))], [vI ((qp_up s 36 0 ((((6 : Int32) * a1) + a2)).toNatClampNeg (s 59 0 (a2).toNatClampNeg)) 35 0 ((((6 : Int32) * a1) + a2)).toNatClampNeg), vR 30 0, vI ((qp_up s 36 0 ((((6 : Int32) * a1) + a2)).toNatClampNeg (s 59 0 (a2).toNatClampNeg)) 35 0 ((((6 : Int32) * a1) + a2)).toNatClampNeg), vR 40 0], qp_H (qp_up s 36 0 ((((6 : Int32) * a1) + a2)).toNatClampNeg (s 59 0 (a2).toNatClampNeg)) x e, (0, 0)) _
        iterate 3 refine qm_E_next rfl ?_
        obtain ⟨hb, h⟩ := qr_inb h
        refine qr_iaload hb rfl rfl rfl rfl ?_
        change qm_E _ _ _ (111, [some (vR 30 0), some (vI a1), some (vI a2), some (vI (((6 : Int32) * a1) + a2))], [vI ((qp_up s 36 0 ((((6 : Int32) * a1) + a2)).toNatClampNeg (s 59 0 (a2).toNatClampNeg)) 59 0 (a2).toNatClampNeg), vI ((qp_up s 36 0 ((((6 : Int32) * a1) + a2)).toNatClampNeg (s 59 0 (a2).toNatClampNeg)) 35 0 ((((6 : Int32) * a1) + a2)).toNatClampNeg), vR 30 0, vI ((qp_up s 36 0 ((((6 : Int32) * a1) + a2)).toNatClampNeg (s 59 0 (a2).toNatClampNeg)) 35 0 ((((6 : Int32) * a1) + a2)).toNatClampNeg), vR 40 0], qp_H (qp_up s 36 0 ((((6 : Int32) * a1) + a2)).toNatClampNeg (s 59 0 (a2).toNatClampNeg)) x e, (0, 0)) _
        obtain ⟨q2, hq, h⟩ := qs_bd h
        refine qm_E_call rfl (qe153 (d + 2) hq) rfl ?_
        change qm_E _ _ _ (114, [some (vR 30 0), some (vI a1), some (vI a2), some (vI (((6 : Int32) * a1) + a2))], [vI q2, vI ((qp_up s 36 0 ((((6 : Int32) * a1) + a2)).toNatClampNeg (s 59 0 (a2).toNatClampNeg)) 35 0 ((((6 : Int32) * a1) + a2)).toNatClampNeg), vR 40 0], qp_H (qp_up s 36 0 ((((6 : Int32) * a1) + a2)).toNatClampNeg (s 59 0 (a2).toNatClampNeg)) x e, (0, 0)) _
        obtain ⟨hb, h⟩ := qr_inb h
        refine qr_iastore hb rfl rfl rfl rfl rfl ?_
        change qm_E _ _ _ (115, [some (vR 30 0), some (vI a1), some (vI a2), some (vI (((6 : Int32) * a1) + a2))], [], qp_H (qp_up (qp_up s 36 0 ((((6 : Int32) * a1) + a2)).toNatClampNeg (s 59 0 (a2).toNatClampNeg)) 40 0 (((qp_up s 36 0 ((((6 : Int32) * a1) + a2)).toNatClampNeg (s 59 0 (a2).toNatClampNeg)) 35 0 ((((6 : Int32) * a1) + a2)).toNatClampNeg)).toNatClampNeg q2) x e, (0, 0)) _
        iterate 4 refine qm_E_next rfl ?_
        obtain ⟨hb, h⟩ := qr_inb h
        refine qr_iaload hb rfl rfl rfl rfl ?_
        change qm_E _ _ _ (122, [some (vR 30 0), some (vI a1), some (vI a2), some (vI (((6 : Int32) * a1) + a2))], [vI ((qp_up (qp_up s 36 0 ((((6 : Int32) * a1) + a2)).toNatClampNeg (s 59 0 (a2).toNatClampNeg)) 40 0 (((qp_up s 36 0 ((((6 : Int32) * a1) + a2)).toNatClampNeg (s 59 0 (a2).toNatClampNeg)) 35 0 ((((6 : Int32) * a1) + a2)).toNatClampNeg)).toNatClampNeg q2) 35 0 ((((6 : Int32) * a1) + a2)).toNatClampNeg), vR 30 0], qp_H (qp_up (qp_up s 36 0 ((((6 : Int32) * a1) + a2)).toNatClampNeg (s 59 0 (a2).toNatClampNeg)) 40 0 (((qp_up s 36 0 ((((6 : Int32) * a1) + a2)).toNatClampNeg (s 59 0 (a2).toNatClampNeg)) 35 0 ((((6 : Int32) * a1) + a2)).toNatClampNeg)).toNatClampNeg q2) x e, (0, 0)) _
        iterate 3 refine qm_E_next rfl ?_
        obtain ⟨hb, h⟩ := qr_inb h
        refine qr_baload hb rfl rfl rfl rfl ?_
        change qm_E _ _ _ (128, [some (vR 30 0), some (vI a1), some (vI a2), some (vI (((6 : Int32) * a1) + a2))], [vI ((qp_up (qp_up s 36 0 ((((6 : Int32) * a1) + a2)).toNatClampNeg (s 59 0 (a2).toNatClampNeg)) 40 0 (((qp_up s 36 0 ((((6 : Int32) * a1) + a2)).toNatClampNeg (s 59 0 (a2).toNatClampNeg)) 35 0 ((((6 : Int32) * a1) + a2)).toNatClampNeg)).toNatClampNeg q2) 55 0 (a1).toNatClampNeg), vI ((qp_up (qp_up s 36 0 ((((6 : Int32) * a1) + a2)).toNatClampNeg (s 59 0 (a2).toNatClampNeg)) 40 0 (((qp_up s 36 0 ((((6 : Int32) * a1) + a2)).toNatClampNeg (s 59 0 (a2).toNatClampNeg)) 35 0 ((((6 : Int32) * a1) + a2)).toNatClampNeg)).toNatClampNeg q2) 35 0 ((((6 : Int32) * a1) + a2)).toNatClampNeg), vR 30 0], qp_H (qp_up (qp_up s 36 0 ((((6 : Int32) * a1) + a2)).toNatClampNeg (s 59 0 (a2).toNatClampNeg)) 40 0 (((qp_up s 36 0 ((((6 : Int32) * a1) + a2)).toNatClampNeg (s 59 0 (a2).toNatClampNeg)) 35 0 ((((6 : Int32) * a1) + a2)).toNatClampNeg)).toNatClampNeg q2) x e, (0, 0)) _
        obtain ⟨q3, hq, h⟩ := qs_bd h
        refine qm_E_call rfl (qe154 (d + 2) hq) rfl ?_
        change qm_E _ _ _ (131, [some (vR 30 0), some (vI a1), some (vI a2), some (vI (((6 : Int32) * a1) + a2))], [], qp_H q3.2 x e, (0, 0)) _
        iterate 2 refine qm_E_next rfl ?_
        exact ih h
      · refine qr_f hb rfl ?_
        change qm_E _ _ _ (85, [some (vR 30 0), some (vI a1), some (vI a2), some (vI (((6 : Int32) * a1) + a2))], [], qp_H (qp_up s 36 0 ((((6 : Int32) * a1) + a2)).toNatClampNeg (s 59 0 (a2).toNatClampNeg)) x e, (0, 0)) _
        iterate 3 refine qm_E_next rfl ?_
        exact ih h
def qf147_21  : Nat → Int32 → Int32 → qp_S → Option (Int32 × qp_S)
  | 0, _, _, _ => none
  | n + 1, a1, a2, s => (bif qm_cmp .ge a2 (4 : Int32) then qf147_50  4096 a1 (0 : Int32) s else (if qm_inb a2 4 = true then (if qm_inb (((4 : Int32) * a1) + a2) 32 = true then qf147_21  n a1 (a2 + (1 : Int32)) (qp_up s 37 0 ((((4 : Int32) * a1) + a2)).toNatClampNeg (s 58 0 (a2).toNatClampNeg)) else none) else none))
theorem qe147_21 (d : Nat) {L : Nat} {xs : Nat → Int32} {x : Int64} {e : Nat → Nat}   : ∀ {n : Nat} {u3 : Option qm_V} {a1 : Int32} {a2 : Int32} {s : qp_S} {r : Int32 × qp_S}, qf147_21  n a1 a2 s = some r → qm_E (qz_ro L xs) (d + 3) 147 (21, [some (vR 30 0), some (vI a1), some (vI a2), u3], [], qp_H s x e, (0, 0)) (qf_u r.2 x e) := by
  intro n
  induction n with
  | zero => intro u3 a1 a2 s r h; cases h
  | succ n ih =>
    intro u3 a1 a2 s r h
    unfold qf147_21 at h
    iterate 2 refine qm_E_next rfl ?_
    rcases qr_cond h with ⟨hb, h⟩ | ⟨hb, h⟩
    · refine qr_t hb rfl ?_
      change qm_E _ _ _ (48, [some (vR 30 0), some (vI a1), some (vI a2), u3], [], qp_H s x e, (0, 0)) _
      iterate 2 refine qm_E_next rfl ?_
      exact qe147_50 d  h
    · refine qr_f hb rfl ?_
      change qm_E _ _ _ (26, [some (vR 30 0), some (vI a1), some (vI a2), u3], [], qp_H s x e, (0, 0)) _
      iterate 6 refine qm_E_next rfl ?_
      change qm_E _ _ _ (34, [some (vR 30 0), some (vI a1), some (vI a2), u3], [vI a2, vI ((4 : Int32) * a1), vR 37 0], qp_H s x e, (0, 0)) _
      iterate 4 refine qm_E_next rfl ?_
      obtain ⟨hb, h⟩ := qr_inb h
      refine qr_iaload hb rfl rfl rfl rfl ?_
      change qm_E _ _ _ (41, [some (vR 30 0), some (vI a1), some (vI a2), u3], [vI (s 58 0 (a2).toNatClampNeg), vI (((4 : Int32) * a1) + a2), vR 37 0], qp_H s x e, (0, 0)) _
      obtain ⟨hb, h⟩ := qr_inb h
      refine qr_iastore hb rfl rfl rfl rfl rfl ?_
      change qm_E _ _ _ (42, [some (vR 30 0), some (vI a1), some (vI a2), u3], [], qp_H (qp_up s 37 0 ((((4 : Int32) * a1) + a2)).toNatClampNeg (s 58 0 (a2).toNatClampNeg)) x e, (0, 0)) _
      iterate 2 refine qm_E_next rfl ?_
      exact ih h
def qf147 (a1 : Int32) (s : qp_S) : Option (Int32 × qp_S) := (if qm_inb a1 8 = true then ((qf148 a1 (s 53 0 (a1).toNatClampNeg) s).bind fun q1 => (if qm_inb a1 8 = true then qf147_21 4096 a1 (0 : Int32) (qp_up q1.2 50 0 (a1).toNatClampNeg (0 : Int32)) else none)) else none)
theorem qe147 (d : Nat) {L : Nat} {xs : Nat → Int32} {x : Int64} {e : Nat → Nat}    {a1 : Int32} {s : qp_S} {r : Int32 × qp_S} (h : qf147  a1 s = some r) : qm_E (qz_ro L xs) (d + 3) 147 (0, qm_ent 147 [vR 30 0, vI a1], [], qp_H s x e, (0, 0)) (qf_u r.2 x e) := by
  unfold qf147 at h
  iterate 5 refine qm_E_next rfl ?_
  obtain ⟨hb, h⟩ := qr_inb h
  refine qr_iaload hb rfl rfl rfl rfl ?_
  change qm_E _ _ _ (8, [some (vR 30 0), some (vI a1), none, none], [vI (s 53 0 (a1).toNatClampNeg), vI a1, vR 30 0], qp_H s x e, (0, 0)) _
  obtain ⟨q1, hq, h⟩ := qs_bd h
  refine qm_E_call rfl (qe148 (d + 0) hq) rfl ?_
  change qm_E _ _ _ (11, [some (vR 30 0), some (vI a1), none, none], [vI (q1.1)], qp_H q1.2 x e, (0, 0)) _
  iterate 5 refine qm_E_next rfl ?_
  obtain ⟨hb, h⟩ := qr_inb h
  refine qr_bastore hb (Or.inl rfl) rfl rfl rfl rfl rfl ?_
  change qm_E _ _ _ (19, [some (vR 30 0), some (vI a1), none, none], [], qp_H (qp_up q1.2 50 0 (a1).toNatClampNeg (0 : Int32)) x e, (0, 0)) _
  iterate 2 refine qm_E_next rfl ?_
  exact qe147_21 d  h
