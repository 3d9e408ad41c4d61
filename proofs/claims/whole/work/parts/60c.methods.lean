/-! PeriodKernel.Word takes -/
def qf61 (a0 : Int32) (s : qp_S) : Option (Int32) := ((qf13 a0 (17 : Int32) s).bind fun q1 => (bif qm_cmp .eq q1 (0 : Int32) then some (0 : Int32) else (if qm_inb a0 17 = true then some (qz_tk.getD (a0).toNatClampNeg 0) else none)))
theorem qe61 (d : Nat) {L : Nat} {xs : Nat → Int32} {x : Int64} {e : Nat → Nat}    {a0 : Int32} {s : qp_S} {r : Int32} (h : qf61  a0 s = some r) : qm_E (qz_ro L xs) (d + 1) 61 (0, qm_ent 61 [vI a0], [], qp_H s x e, (0, 0)) (qf_v r s x e) := by
  unfold qf61 at h
  iterate 2 refine qm_E_next rfl ?_
  obtain ⟨q1, hq, h⟩ := qs_bd h
  refine qm_E_call rfl (qe13 (d + 0) hq) rfl ?_
  change qm_E _ _ _ (6, [some (vI a0)], [vI q1], qp_H s x e, (0, 0)) _
  rcases qr_cond h with ⟨hb, h⟩ | ⟨hb, h⟩
  · refine qr_t hb rfl ?_
    change qm_E _ _ _ (17, [some (vI a0)], [], qp_H s x e, (0, 0)) _
    iterate 1 refine qm_E_next rfl ?_
    cases h
    exact qr_iret (Or.inl rfl) rfl rfl
  · refine qr_f hb rfl ?_
    change qm_E _ _ _ (9, [some (vI a0)], [], qp_H s x e, (0, 0)) _
    iterate 2 refine qm_E_next rfl ?_
    obtain ⟨hb, h⟩ := qr_inb h
    refine qr_roload hb rfl rfl rfl ?_
    change qm_E _ _ _ (14, [some (vI a0)], [vI (qz_tk.getD (a0).toNatClampNeg 0)], qp_H s x e, (0, 0)) _
    iterate 1 refine qm_E_next rfl ?_
    cases h
    exact qr_iret (Or.inl rfl) rfl rfl
/-! PeriodKernel.Word leaves -/
def qf62 (a0 : Int32) (s : qp_S) : Option (Int32) := ((qf13 a0 (17 : Int32) s).bind fun q1 => (bif qm_cmp .eq q1 (0 : Int32) then some (0 : Int32) else (if qm_inb a0 17 = true then some (qz_lk.getD (a0).toNatClampNeg 0) else none)))
theorem qe62 (d : Nat) {L : Nat} {xs : Nat → Int32} {x : Int64} {e : Nat → Nat}    {a0 : Int32} {s : qp_S} {r : Int32} (h : qf62  a0 s = some r) : qm_E (qz_ro L xs) (d + 1) 62 (0, qm_ent 62 [vI a0], [], qp_H s x e, (0, 0)) (qf_v r s x e) := by
  unfold qf62 at h
  iterate 2 refine qm_E_next rfl ?_
  obtain ⟨q1, hq, h⟩ := qs_bd h
  refine qm_E_call rfl (qe13 (d + 0) hq) rfl ?_
  change qm_E _ _ _ (6, [some (vI a0)], [vI q1], qp_H s x e, (0, 0)) _
  rcases qr_cond h with ⟨hb, h⟩ | ⟨hb, h⟩
  · refine qr_t hb rfl ?_
    change qm_E _ _ _ (17, [some (vI a0)], [], qp_H s x e, (0, 0)) _
    iterate 1 refine qm_E_next rfl ?_
    cases h
    exact qr_iret (Or.inl rfl) rfl rfl
  · refine qr_f hb rfl ?_
    change qm_E _ _ _ (9, [some (vI a0)], [], qp_H s x e, (0, 0)) _
    iterate 2 refine qm_E_next rfl ?_
    obtain ⟨hb, h⟩ := qr_inb h
    refine qr_roload hb rfl rfl rfl ?_
    change qm_E _ _ _ (14, [some (vI a0)], [vI (qz_lk.getD (a0).toNatClampNeg 0)], qp_H s x e, (0, 0)) _
    iterate 1 refine qm_E_next rfl ?_
    cases h
    exact qr_iret (Or.inl rfl) rfl rfl
/-! PeriodKernel.CodeLook goOn -/
def qf56 (n1 : Nat) (a2 : Int32) (s : qp_S) : Option (Int32 × qp_S) := ((qf57 n1 a2 s).bind fun q1 => ((qf58 q1 s).bind fun q2 => ((qf57 n1 a2 s).bind fun q3 => ((qf59 q3 s).bind fun q4 => ((qf60 q2 q4 s).bind fun q5 => (bif qm_cmp .eq q5 (0 : Int32) then some ((0 : Int32), s) else (if qm_inb a2 32 = true then ((qf61 q2 s).bind fun q6 => (bif qm_cmp .ge (s 12 0 (a2).toNatClampNeg) q6 then (if qm_inb a2 32 = true then ((qf61 q2 s).bind fun q7 => ((qf62 q2 s).bind fun q8 => (bif decide (q2 = (0 : Int32)) then some ((1 : Int32), s) else (bif decide (q2 = (10 : Int32)) then ((qf55 n1 q4 (((s 12 0 (a2).toNatClampNeg) - q7) + q8) s).bind fun q10 => (if ((q10.1) = 0 ∨ (q10.1) = 1) then some ((q10.1), q10.2) else none)) else (bif decide (q2 = (11 : Int32)) then ((qf55 n1 q4 (((s 12 0 (a2).toNatClampNeg) - q7) + q8) s).bind fun q11 => (bif qm_cmp .eq (q11.1) (0 : Int32) then some ((0 : Int32), q11.2) else ((qf55 n1 (a2 + (1 : Int32)) (((s 12 0 (a2).toNatClampNeg) - q7) + q8) q11.2).bind fun q12 => (bif qm_cmp .eq (q12.1) (0 : Int32) then some ((0 : Int32), q12.2) else some ((1 : Int32), q12.2))))) else ((qf55 n1 (a2 + (1 : Int32)) (((s 12 0 (a2).toNatClampNeg) - q7) + q8) s).bind fun q9 => (if ((q9.1) = 0 ∨ (q9.1) = 1) then some ((q9.1), q9.2) else none))))))) else none) else some ((0 : Int32), s))) else none)))))))
theorem qe56 (d : Nat) {L : Nat} {xs : Nat → Int32} {x : Int64} {e : Nat → Nat}    {n1 : Nat} {a2 : Int32} {s : qp_S} {r : Int32 × qp_S} (h : qf56  n1 a2 s = some r) : qm_E (qz_ro L xs) (d + 2) 56 (0, qm_ent 56 [vR 11 0, vR 14 n1, vI a2], [], qp_H s x e, (0, 0)) (qf_v r.1 r.2 x e) := by
  unfold qf56 at h
  iterate 2 refine qm_E_next rfl ?_
  obtain ⟨q1, hq, h⟩ := qs_bd h
  refine qm_E_call rfl (qe57 (d + 0) hq) rfl ?_
  change qm_E _ _ _ (5, [some (vR 11 0), some (vR 14 n1), some (vI a2), none, none, none], [vI q1], qp_H s x e, (0, 0)) _
  obtain ⟨q2, hq, h⟩ := qs_bd h
  refine qm_E_call rfl (qe58 (d + 1) hq) rfl ?_
  change qm_E _ _ _ (8, [some (vR 11 0), some (vR 14 n1), some (vI a2), none, none, none], [vI q2], qp_H s x e, (0, 0)) _
  iterate 3 refine qm_E_next rfl ?_
  obtain ⟨q3, hq, h⟩ := qs_bd h
  refine qm_E_call rfl (qe57 (d + 0) hq) rfl ?_
  change qm_E _ _ _ (14, [some (vR 11 0), some (vR 14 n1), some (vI a2), some (vI q2), none, none], [vI q3], qp_H s x e, (0, 0)) _
  obtain ⟨q4, hq, h⟩ := qs_bd h
  refine qm_E_call rfl (qe59 (d + 1) hq) rfl ?_
  change qm_E _ _ _ (17, [some (vR 11 0), some (vR 14 n1), some (vI a2), some (vI q2), none, none], [vI q4], qp_H s x e, (0, 0)) _
  iterate 3 refine qm_E_next rfl ?_
  obtain ⟨q5, hq, h⟩ := qs_bd h
  refine qm_E_call rfl (qe60 (d + 0) hq) rfl ?_
  change qm_E _ _ _ (25, [some (vR 11 0), some (vR 14 n1), some (vI a2), some (vI q2), some (vI q4), none], [vI q5], qp_H s x e, (0, 0)) _
  rcases qr_cond h with ⟨hb, h⟩ | ⟨hb, h⟩
  · refine qr_t hb rfl ?_
    change qm_E _ _ _ (41, [some (vR 11 0), some (vR 14 n1), some (vI a2), some (vI q2), some (vI q4), none], [], qp_H s x e, (0, 0)) _
    iterate 1 refine qm_E_next rfl ?_
    cases h
    exact qr_iret (Or.inr ⟨rfl, Or.inl rfl⟩) rfl rfl
  · refine qr_f hb rfl ?_
    change qm_E _ _ _ (28, [some (vR 11 0), some (vR 14 n1), some (vI a2), some (vI q2), some (vI q4), none], [], qp_H s x e, (0, 0)) _
    iterate 3 refine qm_E_next rfl ?_
    obtain ⟨hb, h⟩ := qr_inb h
    refine qr_iaload hb rfl rfl rfl rfl ?_
    change qm_E _ _ _ (34, [some (vR 11 0), some (vR 14 n1), some (vI a2), some (vI q2), some (vI q4), none], [vI (s 12 0 (a2).toNatClampNeg)], qp_H s x e, (0, 0)) _
    iterate 1 refine qm_E_next rfl ?_
    obtain ⟨q6, hq, h⟩ := qs_bd h
    refine qm_E_call rfl (qe61 (d + 0) hq) rfl ?_
    change qm_E _ _ _ (38, [some (vR 11 0), some (vR 14 n1), some (vI a2), some (vI q2), some (vI q4), none], [vI q6, vI (s 12 0 (a2).toNatClampNeg)], qp_H s x e, (0, 0)) _
    rcases qr_cond h with ⟨hb, h⟩ | ⟨hb, h⟩
    · refine qr_t hb rfl ?_
      change qm_E _ _ _ (43, [some (vR 11 0), some (vR 14 n1), some (vI a2), some (vI q2), some (vI q4), none], [], qp_H s x e, (0, 0)) _
      iterate 3 refine qm_E_next rfl ?_
      obtain ⟨hb, h⟩ := qr_inb h
      refine qr_iaload hb rfl rfl rfl rfl ?_
      change qm_E _ _ _ (49, [some (vR 11 0), some (vR 14 n1), some (vI a2), some (vI q2), some (vI q4), none], [vI (s 12 0 (a2).toNatClampNeg)], qp_H s x e, (0, 0)) _
      iterate 1 refine qm_E_next rfl ?_
      obtain ⟨q7, hq, h⟩ := qs_bd h
      refine qm_E_call rfl (qe61 (d + 0) hq) rfl ?_
      change qm_E _ _ _ (53, [some (vR 11 0), some (vR 14 n1), some (vI a2), some (vI q2), some (vI q4), none], [vI q7, vI (s 12 0 (a2).toNatClampNeg)], qp_H s x e, (0, 0)) _
      iterate 2 refine qm_E_next rfl ?_
      obtain ⟨q8, hq, h⟩ := qs_bd h
      refine qm_E_call rfl (qe62 (d + 0) hq) rfl ?_
      change qm_E _ _ _ (58, [some (vR 11 0), some (vR 14 n1), some (vI a2), some (vI q2), some (vI q4), none], [vI q8, vI ((s 12 0 (a2).toNatClampNeg) - q7)], qp_H s x e, (0, 0)) _
      iterate 3 refine qm_E_next rfl ?_
      rcases qr_cond h with ⟨hb0, h⟩ | ⟨hb0, h⟩
      · refine qr_tsv hb0 rfl ?_
        change qm_E _ _ _ (96, [some (vR 11 0), some (vR 14 n1), some (vI a2), some (vI q2), some (vI q4), some (vI (((s 12 0 (a2).toNatClampNeg) - q7) + q8))], [], qp_H s x e, (0, 0)) _
        iterate 1 refine qm_E_next rfl ?_
        cases h
        exact qr_iret (Or.inr ⟨rfl, Or.inr rfl⟩) rfl rfl
      · rcases qr_cond h with ⟨hb1, h⟩ | ⟨hb1, h⟩
        · refine qr_tsv hb1 rfl ?_
          change qm_E _ _ _ (98, [some (vR 11 0), some (vR 14 n1), some (vI a2), some (vI q2), some (vI q4), some (vI (((s 12 0 (a2).toNatClampNeg) - q7) + q8))], [], qp_H s x e, (0, 0)) _
          iterate 4 refine qm_E_next rfl ?_
          obtain ⟨q10, hq, h⟩ := qs_bd h
          refine qm_E_call rfl (qe55 (d + 0) hq) rfl ?_
          change qm_E _ _ _ (107, [some (vR 11 0), some (vR 14 n1), some (vI a2), some (vI q2), some (vI q4), some (vI (((s 12 0 (a2).toNatClampNeg) - q7) + q8))], [vI (q10.1)], qp_H q10.2 x e, (0, 0)) _
          obtain ⟨hz, h⟩ := qr_inb h
          cases h
          exact qr_iret (Or.inr ⟨rfl, hz⟩) rfl rfl
        · rcases qr_cond h with ⟨hb2, h⟩ | ⟨hb2, h⟩
          · refine qr_tsv hb2 rfl ?_
            change qm_E _ _ _ (108, [some (vR 11 0), some (vR 14 n1), some (vI a2), some (vI q2), some (vI q4), some (vI (((s 12 0 (a2).toNatClampNeg) - q7) + q8))], [], qp_H s x e, (0, 0)) _
            iterate 4 refine qm_E_next rfl ?_
            obtain ⟨q11, hq, h⟩ := qs_bd h
            refine qm_E_call rfl (qe55 (d + 0) hq) rfl ?_
            change qm_E _ _ _ (117, [some (vR 11 0), some (vR 14 n1), some (vI a2), some (vI q2), some (vI q4), some (vI (((s 12 0 (a2).toNatClampNeg) - q7) + q8))], [vI (q11.1)], qp_H q11.2 x e, (0, 0)) _
            rcases qr_cond h with ⟨hb, h⟩ | ⟨hb, h⟩
            · refine qr_t hb rfl ?_
              change qm_E _ _ _ (137, [some (vR 11 0), some (vR 14 n1), some (vI a2), some (vI q2), some (vI q4), some (vI (((s 12 0 (a2).toNatClampNeg) - q7) + q8))], [], qp_H q11.2 x e, (0, 0)) _
              iterate 1 refine qm_E_next rfl ?_
              cases h
              exact qr_iret (Or.inr ⟨rfl, Or.inl rfl⟩) rfl rfl
            · refine qr_f hb rfl ?_
              change qm_E _ _ _ (120, [some (vR 11 0), some (vR 14 n1), some (vI a2), some (vI q2), some (vI q4), some (vI (((s 12 0 (a2).toNatClampNeg) - q7) + q8))], [], qp_H q11.2 x e, (0, 0)) _
              iterate 6 refine qm_E_next rfl ?_
              change qm_E _ _ _ (127, [some (vR 11 0), some (vR 14 n1), some (vI a2), some (vI q2), some (vI q4), some (vI (((s 12 0 (a2).toNatClampNeg) - q7) + q8))], [vI (((s 12 0 (a2).toNatClampNeg) - q7) + q8), vI (a2 + (1 : Int32)), vR 14 n1, vR 11 0], qp_H q11.2 x e, (0, 0)) _
              obtain ⟨q12, hq, h⟩ := qs_bd h
              refine qm_E_call rfl (qe55 (d + 0) hq) rfl ?_
              change qm_E _ _ _ (130, [some (vR 11 0), some (vR 14 n1), some (vI a2), some (vI q2), some (vI q4), some (vI (((s 12 0 (a2).toNatClampNeg) - q7) + q8))], [vI (q12.1)], qp_H q12.2 x e, (0, 0)) _
              rcases qr_cond h with ⟨hb, h⟩ | ⟨hb, h⟩
              · refine qr_t hb rfl ?_
                change qm_E _ _ _ (137, [some (vR 11 0), some (vR 14 n1), some (vI a2), some (vI q2), some (vI q4), some (vI (((s 12 0 (a2).toNatClampNeg) - q7) + q8))], [], qp_H q12.2 x e, (0, 0)) _
                iterate 1 refine qm_E_next rfl ?_
                cases h
                exact qr_iret (Or.inr ⟨rfl, Or.inl rfl⟩) rfl rfl
              · refine qr_f hb rfl ?_
                change qm_E _ _ _ (133, [some (vR 11 0), some (vR 14 n1), some (vI a2), some (vI q2), some (vI q4), some (vI (((s 12 0 (a2).toNatClampNeg) - q7) + q8))], [], qp_H q12.2 x e, (0, 0)) _
                iterate 2 refine qm_E_next rfl ?_
                cases h
                exact qr_iret (Or.inr ⟨rfl, Or.inr rfl⟩) rfl rfl
          · refine qr_lsd (df := 77) (o := 77) (ps := #[(0, 34), (10, 36), (11, 46)]) (by show (if (0 : Int) = (q2).toInt then (34 : Int) else if (10 : Int) = (q2).toInt then (36 : Int) else if (11 : Int) = (q2).toInt then (46 : Int) else 77) = 77; rw [if_neg (qr_ne (z := 0) hb0 (by decide)), if_neg (qr_ne (z := 10) hb1 (by decide)), if_neg (qr_ne (z := 11) hb2 (by decide))]) rfl rfl rfl rfl ?_
            change qm_E _ _ _ (139, [some (vR 11 0), some (vR 14 n1), some (vI a2), some (vI q2), some (vI q4), some (vI (((s 12 0 (a2).toNatClampNeg) - q7) + q8))], [], qp_H s x e, (0, 0)) _
            iterate 6 refine qm_E_next rfl ?_
            change qm_E _ _ _ (146, [some (vR 11 0), some (vR 14 n1), some (vI a2), some (vI q2), some (vI q4), some (vI (((s 12 0 (a2).toNatClampNeg) - q7) + q8))], [vI (((s 12 0 (a2).toNatClampNeg) - q7) + q8), vI (a2 + (1 : Int32)), vR 14 n1, vR 11 0], qp_H s x e, (0, 0)) _
            obtain ⟨q9, hq, h⟩ := qs_bd h
            refine qm_E_call rfl (qe55 (d + 0) hq) rfl ?_
            change qm_E _ _ _ (149, [some (vR 11 0), some (vR 14 n1), some (vI a2), some (vI q2), some (vI q4), some (vI (((s 12 0 (a2).toNatClampNeg) - q7) + q8))], [vI (q9.1)], qp_H q9.2 x e, (0, 0)) _
            obtain ⟨hz, h⟩ := qr_inb h
            cases h
            exact qr_iret (Or.inr ⟨rfl, hz⟩) rfl rfl
    · refine qr_f hb rfl ?_
      change qm_E _ _ _ (41, [some (vR 11 0), some (vR 14 n1), some (vI a2), some (vI q2), some (vI q4), none], [], qp_H s x e, (0, 0)) _
      iterate 1 refine qm_E_next rfl ?_
      cases h
      exact qr_iret (Or.inr ⟨rfl, Or.inl rfl⟩) rfl rfl
/-! PeriodKernel.CodeLook isSound -/
def qf54_23  : Nat → Nat → Int32 → Int32 → qp_S → Option (Int32 × qp_S)
  | 0, _, _, _, _ => none
  | n + 1, n1, a2, a3, s => (bif qm_cmp .ge a3 (32 : Int32) then (if (a2 = 0 ∨ a2 = 1) then some (a2, s) else none) else (bif qm_cmp .ge a3 (s 11 0 2) then (if (a2 = 0 ∨ a2 = 1) then some (a2, s) else none) else (bif qm_cmp .eq a2 (0 : Int32) then (if (a2 = 0 ∨ a2 = 1) then some (a2, s) else none) else (if qm_inb a3 32 = true then ((qf56 n1 (s 13 0 (a3).toNatClampNeg) s).bind fun q3 => qf54_23  n n1 (q3.1) (a3 + (1 : Int32)) q3.2) else none))))
theorem qe54_23 (d : Nat) {L : Nat} {xs : Nat → Int32} {x : Int64} {e : Nat → Nat}   : ∀ {n : Nat}  {n1 : Nat} {a2 : Int32} {a3 : Int32} {s : qp_S} {r : Int32 × qp_S}, qf54_23  n n1 a2 a3 s = some r → qm_E (qz_ro L xs) (d + 3) 54 (23, [some (vR 11 0), some (vR 14 n1), some (vI a2), some (vI a3)], [], qp_H s x e, (0, 0)) (qf_v r.1 r.2 x e) := by
  intro n
  induction n with
  | zero => intro  n1 a2 a3 s r h; cases h
  | succ n ih =>
    intro  n1 a2 a3 s r h
    unfold qf54_23 at h
    iterate 2 refine qm_E_next rfl ?_
    rcases qr_cond h with ⟨hb, h⟩ | ⟨hb, h⟩
    · refine qr_t hb rfl ?_
      change qm_E _ _ _ (59, [some (vR 11 0), some (vR 14 n1), some (vI a2), some (vI a3)], [], qp_H s x e, (0, 0)) _
      iterate 1 refine qm_E_next rfl ?_
      obtain ⟨hz, h⟩ := qr_inb h
      cases h
      exact qr_iret (Or.inr ⟨rfl, hz⟩) rfl rfl
    · refine qr_f hb rfl ?_
      change qm_E _ _ _ (29, [some (vR 11 0), some (vR 14 n1), some (vI a2), some (vI a3)], [], qp_H s x e, (0, 0)) _
      iterate 3 refine qm_E_next rfl ?_
      rcases qr_cond h with ⟨hb, h⟩ | ⟨hb, h⟩
      · refine qr_t hb rfl ?_
        change qm_E _ _ _ (59, [some (vR 11 0), some (vR 14 n1), some (vI a2), some (vI a3)], [], qp_H s x e, (0, 0)) _
        iterate 1 refine qm_E_next rfl ?_
        obtain ⟨hz, h⟩ := qr_inb h
        cases h
        exact qr_iret (Or.inr ⟨rfl, hz⟩) rfl rfl
      · refine qr_f hb rfl ?_
        change qm_E _ _ _ (37, [some (vR 11 0), some (vR 14 n1), some (vI a2), some (vI a3)], [], qp_H s x e, (0, 0)) _
        iterate 1 refine qm_E_next rfl ?_
        rcases qr_cond h with ⟨hb, h⟩ | ⟨hb, h⟩
        · refine qr_t hb rfl ?_
          change qm_E _ _ _ (59, [some (vR 11 0), some (vR 14 n1), some (vI a2), some (vI a3)], [], qp_H s x e, (0, 0)) _
          iterate 1 refine qm_E_next rfl ?_
          obtain ⟨hz, h⟩ := qr_inb h
          cases h
          exact qr_iret (Or.inr ⟨rfl, hz⟩) rfl rfl
        · refine qr_f hb rfl ?_
          change qm_E _ _ _ (41, [some (vR 11 0), some (vR 14 n1), some (vI a2), some (vI a3)], [], qp_H s x e, (0, 0)) _
          iterate 5 refine qm_E_next rfl ?_
          obtain ⟨hb, h⟩ := qr_inb h
          refine qr_iaload hb rfl rfl rfl rfl ?_
          change qm_E _ _ _ (49, [some (vR 11 0), some (vR 14 n1), some (vI a2), some (vI a3)], [vI (s 13 0 (a3).toNatClampNeg), vR 14 n1, vR 11 0], qp_H s x e, (0, 0)) _
          obtain ⟨q3, hq, h⟩ := qs_bd h
          refine qm_E_call rfl (qe56 (d + 0) hq) rfl ?_
          change qm_E _ _ _ (52, [some (vR 11 0), some (vR 14 n1), some (vI a2), some (vI a3)], [vI (q3.1)], qp_H q3.2 x e, (0, 0)) _
          iterate 3 refine qm_E_next rfl ?_
          exact ih h
def qf54 (n1 : Nat) (s : qp_S) : Option (Int32 × qp_S) := ((qf11 (-1 : Int32) s).bind fun q1 => ((qf55 n1 (0 : Int32) (0 : Int32) (qp_up q1.2 11 0 2 (0 : Int32))).bind fun q2 => qf54_23 4096 n1 (q2.1) (0 : Int32) q2.2))
theorem qe54 (d : Nat) {L : Nat} {xs : Nat → Int32} {x : Int64} {e : Nat → Nat}    {n1 : Nat} {s : qp_S} {r : Int32 × qp_S} (h : qf54  n1 s = some r) : qm_E (qz_ro L xs) (d + 3) 54 (0, qm_ent 54 [vR 11 0, vR 14 n1], [], qp_H s x e, (0, 0)) (qf_v r.1 r.2 x e) := by
  unfold qf54 at h
  iterate 3 refine qm_E_next rfl ?_
  obtain ⟨q1, hq, h⟩ := qs_bd h
  refine qm_E_call rfl (qe11 (d + 2) hq) rfl ?_
  change qm_E _ _ _ (8, [some (vR 11 0), some (vR 14 n1), none, none], [], qp_H q1.2 x e, (0, 0)) _
  iterate 2 refine qm_E_next rfl ?_
  refine qr_put rfl rfl ?_
  change qm_E _ _ _ (13, [some (vR 11 0), some (vR 14 n1), none, none], [], qp_H (qp_up q1.2 11 0 2 (0 : Int32)) x e, (0, 0)) _
  iterate 4 refine qm_E_next rfl ?_
  obtain ⟨q2, hq, h⟩ := qs_bd h
  refine qm_E_call rfl (qe55 (d + 1) hq) rfl ?_
  change qm_E _ _ _ (20, [some (vR 11 0), some (vR 14 n1), none, none], [vI (q2.1)], qp_H q2.2 x e, (0, 0)) _
  iterate 3 refine qm_E_next rfl ?_
  exact qe54_23 d  h
/-! PeriodKernel.ProgramLook findBrokenCode -/
def qf51_2  : Nat → Int32 → qp_S → Option (Int32 × qp_S)
  | 0, _, _ => none
  | n + 1, a3, s => (bif qm_cmp .ge a3 (8 : Int32) then some ((-1 : Int32), s) else ((qf52 a3 s).bind fun q1 => (bif qm_cmp .eq q1 (0 : Int32) then qf51_2  n (a3 + (1 : Int32)) s else (if qm_inb a3 8 = true then ((qf54 (a3).toNatClampNeg s).bind fun q2 => (bif qm_cmp .ne (q2.1) (0 : Int32) then qf51_2  n (a3 + (1 : Int32)) q2.2 else some (a3, q2.2))) else none))))
theorem qe51_2 (d : Nat) {L : Nat} {xs : Nat → Int32} {x : Int64} {e : Nat → Nat}   : ∀ {n : Nat}  {a3 : Int32} {s : qp_S} {r : Int32 × qp_S}, qf51_2  n a3 s = some r → qm_E (qz_ro L xs) (d + 4) 51 (2, [some (vR 10 0), some (vR 2 0), some (vR 4 0), some (vI a3)], [], qp_H s x e, (0, 0)) (qf_v r.1 r.2 x e) := by
  intro n
  induction n with
  | zero => intro  a3 s r h; cases h
  | succ n ih =>
    intro  a3 s r h
    unfold qf51_2 at h
    iterate 2 refine qm_E_next rfl ?_
    rcases qr_cond h with ⟨hb, h⟩ | ⟨hb, h⟩
    · refine qr_t hb rfl ?_
      change qm_E _ _ _ (37, [some (vR 10 0), some (vR 2 0), some (vR 4 0), some (vI a3)], [], qp_H s x e, (0, 0)) _
      iterate 1 refine qm_E_next rfl ?_
      cases h
      exact qr_iret (Or.inl rfl) rfl rfl
    · refine qr_f hb rfl ?_
      change qm_E _ _ _ (8, [some (vR 10 0), some (vR 2 0), some (vR 4 0), some (vI a3)], [], qp_H s x e, (0, 0)) _
      iterate 2 refine qm_E_next rfl ?_
      obtain ⟨q1, hq, h⟩ := qs_bd h
      refine qm_E_call rfl (qe52 (d + 2) hq) rfl ?_
      change qm_E _ _ _ (13, [some (vR 10 0), some (vR 2 0), some (vR 4 0), some (vI a3)], [vI q1], qp_H s x e, (0, 0)) _
      rcases qr_cond h with ⟨hb, h⟩ | ⟨hb, h⟩
      · refine qr_t hb rfl ?_
        change qm_E _ _ _ (31, [some (vR 10 0), some (vR 2 0), some (vR 4 0), some (vI a3)], [], qp_H s x e, (0, 0)) _
        iterate 2 refine qm_E_next rfl ?_
        exact ih h
      · refine qr_f hb rfl ?_
        change qm_E _ _ _ (16, [some (vR 10 0), some (vR 2 0), some (vR 4 0), some (vI a3)], [], qp_H s x e, (0, 0)) _
        iterate 4 refine qm_E_next rfl ?_
        obtain ⟨hb, h⟩ := qr_inb h
        refine qr_aaload hb rfl rfl rfl ?_
        change qm_E _ _ _ (23, [some (vR 10 0), some (vR 2 0), some (vR 4 0), some (vI a3)], [vR 14 (a3).toNatClampNeg, vR 11 0], qp_H s x e, (0, 0)) _
        obtain ⟨q2, hq, h⟩ := qs_bd h
        refine qm_E_call rfl (qe54 (d + 0) hq) rfl ?_
        change qm_E _ _ _ (26, [some (vR 10 0), some (vR 2 0), some (vR 4 0), some (vI a3)], [vI (q2.1)], qp_H q2.2 x e, (0, 0)) _
        rcases qr_cond h with ⟨hb, h⟩ | ⟨hb, h⟩
        · refine qr_t hb rfl ?_
          change qm_E _ _ _ (31, [some (vR 10 0), some (vR 2 0), some (vR 4 0), some (vI a3)], [], qp_H q2.2 x e, (0, 0)) _
          iterate 2 refine qm_E_next rfl ?_
          exact ih h
        · refine qr_f hb rfl ?_
          change qm_E _ _ _ (29, [some (vR 10 0), some (vR 2 0), some (vR 4 0), some (vI a3)], [], qp_H q2.2 x e, (0, 0)) _
          iterate 1 refine qm_E_next rfl ?_
          cases h
          exact qr_iret (Or.inl rfl) rfl rfl
def qf51 (s : qp_S) : Option (Int32 × qp_S) := qf51_2 4096 (0 : Int32) s
theorem qe51 (d : Nat) {L : Nat} {xs : Nat → Int32} {x : Int64} {e : Nat → Nat}     {s : qp_S} {r : Int32 × qp_S} (h : qf51   s = some r) : qm_E (qz_ro L xs) (d + 4) 51 (0, qm_ent 51 [vR 10 0, vR 2 0, vR 4 0], [], qp_H s x e, (0, 0)) (qf_v r.1 r.2 x e) := by
  unfold qf51 at h
  iterate 2 refine qm_E_next rfl ?_
  exact qe51_2 d  h
/-! PeriodKernel.CodeLook isWordWired -/
def qf65 (n0 : Nat) (a1 : Int32) (s : qp_S) : Option (Int32) := ((qf59 a1 s).bind fun q1 => ((qf58 a1 s).bind fun q2 => (bif decide (q2 = (2 : Int32)) then ((qf13 q1 (6 : Int32) s).bind fun q3 => (bif qm_cmp .eq q3 (0 : Int32) then some (0 : Int32) else (if qm_inb q1 6 = true then (bif qm_cmp .ne (s 16 (6 * n0 + (q1).toNatClampNeg) 0) (0 : Int32) then some (0 : Int32) else some (1 : Int32)) else none))) else (bif decide (q2 = (3 : Int32)) then ((qf13 q1 (6 : Int32) s).bind fun q4 => (bif qm_cmp .eq q4 (0 : Int32) then some (0 : Int32) else (if qm_inb q1 6 = true then (bif qm_cmp .ne (s 16 (6 * n0 + (q1).toNatClampNeg) 0) (1 : Int32) then some (0 : Int32) else some (1 : Int32)) else none))) else some (1 : Int32)))))
theorem qe65 (d : Nat) {L : Nat} {xs : Nat → Int32} {x : Int64} {e : Nat → Nat}    {n0 : Nat} {a1 : Int32} {s : qp_S} {r : Int32} (h : qf65  n0 a1 s = some r) : qm_E (qz_ro L xs) (d + 1) 65 (0, qm_ent 65 [vR 14 n0, vI a1], [], qp_H s x e, (0, 0)) (qf_v r s x e) := by
  unfold qf65 at h
  iterate 1 refine qm_E_next rfl ?_
  obtain ⟨q1, hq, h⟩ := qs_bd h
  refine qm_E_call rfl (qe59 (d + 0) hq) rfl ?_
  change qm_E _ _ _ (4, [some (vR 14 n0), some (vI a1), none], [vI q1], qp_H s x e, (0, 0)) _
  iterate 2 refine qm_E_next rfl ?_
  obtain ⟨q2, hq, h⟩ := qs_bd h
  refine qm_E_call rfl (qe58 (d + 0) hq) rfl ?_
  change qm_E _ _ _ (9, [some (vR 14 n0), some (vI a1), some (vI q1)], [vI q2], qp_H s x e, (0, 0)) _
  rcases qr_cond h with ⟨hb0, h⟩ | ⟨hb0, h⟩
  · refine qr_tsv hb0 rfl ?_
    change qm_E _ _ _ (36, [some (vR 14 n0), some (vI a1), some (vI q1)], [], qp_H s x e, (0, 0)) _
    iterate 2 refine qm_E_next rfl ?_
    obtain ⟨q3, hq, h⟩ := qs_bd h
    refine qm_E_call rfl (qe13 (d + 0) hq) rfl ?_
    change qm_E _ _ _ (42, [some (vR 14 n0), some (vI a1), some (vI q1)], [vI q3], qp_H s x e, (0, 0)) _
    rcases qr_cond h with ⟨hb, h⟩ | ⟨hb, h⟩
    · refine qr_t hb rfl ?_
      change qm_E _ _ _ (61, [some (vR 14 n0), some (vI a1), some (vI q1)], [], qp_H s x e, (0, 0)) _
      iterate 1 refine qm_E_next rfl ?_
      cases h
      exact qr_iret (Or.inr ⟨rfl, Or.inl rfl⟩) rfl rfl
    · refine qr_f hb rfl ?_
      change qm_E _ _ _ (45, [some (vR 14 n0), some (vI a1), some (vI q1)], [], qp_H s x e, (0, 0)) _
      iterate 3 refine qm_E_next rfl ?_
      obtain ⟨hb, h⟩ := qr_inb h
      refine qr_aaload hb rfl rfl rfl ?_
      change qm_E _ _ _ (51, [some (vR 14 n0), some (vI a1), some (vI q1)], [vR 16 (6 * n0 + (q1).toNatClampNeg)], qp_H s x e, (0, 0)) _
      iterate 1 refine qm_E_next rfl ?_
      rcases qr_cond h with ⟨hb, h⟩ | ⟨hb, h⟩
      · refine qr_t hb rfl ?_
        change qm_E _ _ _ (61, [some (vR 14 n0), some (vI a1), some (vI q1)], [], qp_H s x e, (0, 0)) _
        iterate 1 refine qm_E_next rfl ?_
        cases h
        exact qr_iret (Or.inr ⟨rfl, Or.inl rfl⟩) rfl rfl
      · refine qr_f hb rfl ?_
        change qm_E _ _ _ (57, [some (vR 14 n0), some (vI a1), some (vI q1)], [], qp_H s x e, (0, 0)) _
        iterate 2 refine qm_E_next rfl ?_
        cases h
        exact qr_iret (Or.inr ⟨rfl, Or.inr rfl⟩) rfl rfl
  · rcases qr_cond h with ⟨hb1, h⟩ | ⟨hb1, h⟩
    · refine qr_tsv hb1 rfl ?_
      change qm_E _ _ _ (63, [some (vR 14 n0), some (vI a1), some (vI q1)], [], qp_H s x e, (0, 0)) _
      iterate 2 refine qm_E_next rfl ?_
      obtain ⟨q4, hq, h⟩ := qs_bd h
      refine qm_E_call rfl (qe13 (d + 0) hq) rfl ?_
      change qm_E _ _ _ (69, [some (vR 14 n0), some (vI a1), some (vI q1)], [vI q4], qp_H s x e, (0, 0)) _
      rcases qr_cond h with ⟨hb, h⟩ | ⟨hb, h⟩
      · refine qr_t hb rfl ?_
        change qm_E _ _ _ (89, [some (vR 14 n0), some (vI a1), some (vI q1)], [], qp_H s x e, (0, 0)) _
        iterate 1 refine qm_E_next rfl ?_
        cases h
        exact qr_iret (Or.inr ⟨rfl, Or.inl rfl⟩) rfl rfl
      · refine qr_f hb rfl ?_
        change qm_E _ _ _ (72, [some (vR 14 n0), some (vI a1), some (vI q1)], [], qp_H s x e, (0, 0)) _
        iterate 3 refine qm_E_next rfl ?_
        obtain ⟨hb, h⟩ := qr_inb h
        refine qr_aaload hb rfl rfl rfl ?_
        change qm_E _ _ _ (78, [some (vR 14 n0), some (vI a1), some (vI q1)], [vR 16 (6 * n0 + (q1).toNatClampNeg)], qp_H s x e, (0, 0)) _
        iterate 2 refine qm_E_next rfl ?_
        rcases qr_cond h with ⟨hb, h⟩ | ⟨hb, h⟩
        · refine qr_t hb rfl ?_
          change qm_E _ _ _ (89, [some (vR 14 n0), some (vI a1), some (vI q1)], [], qp_H s x e, (0, 0)) _
          iterate 1 refine qm_E_next rfl ?_
          cases h
          exact qr_iret (Or.inr ⟨rfl, Or.inl rfl⟩) rfl rfl
        · refine qr_f hb rfl ?_
          change qm_E _ _ _ (85, [some (vR 14 n0), some (vI a1), some (vI q1)], [], qp_H s x e, (0, 0)) _
          iterate 2 refine qm_E_next rfl ?_
          cases h
          exact qr_iret (Or.inr ⟨rfl, Or.inr rfl⟩) rfl rfl
    · refine qr_lsd (df := 82) (o := 82) (ps := #[(2, 27), (3, 54)]) (by show (if (2 : Int) = (q2).toInt then (27 : Int) else if (3 : Int) = (q2).toInt then (54 : Int) else 82) = 82; rw [if_neg (qr_ne (z := 2) hb0 (by decide)), if_neg (qr_ne (z := 3) hb1 (by decide))]) rfl rfl rfl rfl ?_
      change qm_E _ _ _ (91, [some (vR 14 n0), some (vI a1), some (vI q1)], [], qp_H s x e, (0, 0)) _
      iterate 1 refine qm_E_next rfl ?_
      cases h
      exact qr_iret (Or.inr ⟨rfl, Or.inr rfl⟩) rfl rfl
/-! PeriodKernel.CodeLook isWired -/
def qf64_4  : Nat → Nat → Int32 → Int32 → qp_S → Option (Int32)
  | 0, _, _, _, _ => none
  | n + 1, n1, a2, a3, s => (bif qm_cmp .ge a3 (s 11 0 2) then (if (a2 = 0 ∨ a2 = 1) then some a2 else none) else (bif qm_cmp .eq a2 (0 : Int32) then (if (a2 = 0 ∨ a2 = 1) then some a2 else none) else (if qm_inb a3 32 = true then ((qf57 n1 (s 13 0 (a3).toNatClampNeg) s).bind fun q1 => ((qf65 n1 q1 s).bind fun q2 => qf64_4  n n1 q2 (a3 + (1 : Int32)) s)) else none)))
theorem qe64_4 (d : Nat) {L : Nat} {xs : Nat → Int32} {x : Int64} {e : Nat → Nat}   : ∀ {n : Nat}  {n1 : Nat} {a2 : Int32} {a3 : Int32} {s : qp_S} {r : Int32}, qf64_4  n n1 a2 a3 s = some r → qm_E (qz_ro L xs) (d + 2) 64 (4, [some (vR 11 0), some (vR 14 n1), some (vI a2), some (vI a3)], [], qp_H s x e, (0, 0)) (qf_v r s x e) := by
  intro n
  induction n with
  | zero => intro  n1 a2 a3 s r h; cases h
  | succ n ih =>
    intro  n1 a2 a3 s r h
    unfold qf64_4 at h
    iterate 3 refine qm_E_next rfl ?_
    rcases qr_cond h with ⟨hb, h⟩ | ⟨hb, h⟩
    · refine qr_t hb rfl ?_
      change qm_E _ _ _ (37, [some (vR 11 0), some (vR 14 n1), some (vI a2), some (vI a3)], [], qp_H s x e, (0, 0)) _
      iterate 1 refine qm_E_next rfl ?_
      obtain ⟨hz, h⟩ := qr_inb h
      cases h
      exact qr_iret (Or.inr ⟨rfl, hz⟩) rfl rfl
    · refine qr_f hb rfl ?_
      change qm_E _ _ _ (12, [some (vR 11 0), some (vR 14 n1), some (vI a2), some (vI a3)], [], qp_H s x e, (0, 0)) _
      iterate 1 refine qm_E_next rfl ?_
      rcases qr_cond h with ⟨hb, h⟩ | ⟨hb, h⟩
      · refine qr_t hb rfl ?_
        change qm_E _ _ _ (37, [some (vR 11 0), some (vR 14 n1), some (vI a2), some (vI a3)], [], qp_H s x e, (0, 0)) _
        iterate 1 refine qm_E_next rfl ?_
        obtain ⟨hz, h⟩ := qr_inb h
        cases h
        exact qr_iret (Or.inr ⟨rfl, hz⟩) rfl rfl
      · refine qr_f hb rfl ?_
        change qm_E _ _ _ (16, [some (vR 11 0), some (vR 14 n1), some (vI a2), some (vI a3)], [], qp_H s x e, (0, 0)) _
        iterate 5 refine qm_E_next rfl ?_
        obtain ⟨hb, h⟩ := qr_inb h
        refine qr_iaload hb rfl rfl rfl rfl ?_
        change qm_E _ _ _ (24, [some (vR 11 0), some (vR 14 n1), some (vI a2), some (vI a3)], [vI (s 13 0 (a3).toNatClampNeg), vR 14 n1, vR 14 n1], qp_H s x e, (0, 0)) _
        obtain ⟨q1, hq, h⟩ := qs_bd h
        refine qm_E_call rfl (qe57 (d + 0) hq) rfl ?_
        change qm_E _ _ _ (27, [some (vR 11 0), some (vR 14 n1), some (vI a2), some (vI a3)], [vI q1, vR 14 n1], qp_H s x e, (0, 0)) _
        obtain ⟨q2, hq, h⟩ := qs_bd h
        refine qm_E_call rfl (qe65 (d + 0) hq) rfl ?_
        change qm_E _ _ _ (30, [some (vR 11 0), some (vR 14 n1), some (vI a2), some (vI a3)], [vI q2], qp_H s x e, (0, 0)) _
        iterate 3 refine qm_E_next rfl ?_
        exact ih h
def qf64 (n1 : Nat) (s : qp_S) : Option (Int32) := qf64_4 4096 n1 (1 : Int32) (0 : Int32) s
theorem qe64 (d : Nat) {L : Nat} {xs : Nat → Int32} {x : Int64} {e : Nat → Nat}    {n1 : Nat} {s : qp_S} {r : Int32} (h : qf64  n1 s = some r) : qm_E (qz_ro L xs) (d + 2) 64 (0, qm_ent 64 [vR 11 0, vR 14 n1], [], qp_H s x e, (0, 0)) (qf_v r s x e) := by
  unfold qf64 at h
  iterate 4 refine qm_E_next rfl ?_
  exact qe64_4 d  h
/-! PeriodKernel.ProgramLook findWrongWire -/
def qf63_2  : Nat → Int32 → qp_S → Option (Int32 × qp_S)
  | 0, _, _ => none
  | n + 1, a3, s => (bif qm_cmp .ge a3 (8 : Int32) then some ((-1 : Int32), s) else ((qf52 a3 s).bind fun q1 => (bif qm_cmp .eq q1 (0 : Int32) then qf63_2  n (a3 + (1 : Int32)) s else (if qm_inb a3 8 = true then ((qf54 (a3).toNatClampNeg s).bind fun q2 => (bif qm_cmp .eq (q2.1) (0 : Int32) then qf63_2  n (a3 + (1 : Int32)) q2.2 else (if qm_inb a3 8 = true then ((qf64 (a3).toNatClampNeg q2.2).bind fun q3 => (bif qm_cmp .ne q3 (0 : Int32) then qf63_2  n (a3 + (1 : Int32)) q2.2 else some (a3, q2.2))) else none))) else none))))
theorem qe63_2 (d : Nat) {L : Nat} {xs : Nat → Int32} {x : Int64} {e : Nat → Nat}   : ∀ {n : Nat}  {a3 : Int32} {s : qp_S} {r : Int32 × qp_S}, qf63_2  n a3 s = some r → qm_E (qz_ro L xs) (d + 4) 63 (2, [some (vR 10 0), some (vR 2 0), some (vR 4 0), some (vI a3)], [], qp_H s x e, (0, 0)) (qf_v r.1 r.2 x e) := by
  intro n
  induction n with
  | zero => intro  a3 s r h; cases h
  | succ n ih =>
    intro  a3 s r h
    unfold qf63_2 at h
    iterate 2 refine qm_E_next rfl ?_
    rcases qr_cond h with ⟨hb, h⟩ | ⟨hb, h⟩
    · refine qr_t hb rfl ?_
      change qm_E _ _ _ (50, [some (vR 10 0), some (vR 2 0), some (vR 4 0), some (vI a3)], [], qp_H s x e, (0, 0)) _
      iterate 1 refine qm_E_next rfl ?_
      cases h
      exact qr_iret (Or.inl rfl) rfl rfl
    · refine qr_f hb rfl ?_
      change qm_E _ _ _ (8, [some (vR 10 0), some (vR 2 0), some (vR 4 0), some (vI a3)], [], qp_H s x e, (0, 0)) _
      iterate 2 refine qm_E_next rfl ?_
      obtain ⟨q1, hq, h⟩ := qs_bd h
      refine qm_E_call rfl (qe52 (d + 2) hq) rfl ?_
      change qm_E _ _ _ (13, [some (vR 10 0), some (vR 2 0), some (vR 4 0), some (vI a3)], [vI q1], qp_H s x e, (0, 0)) _
      rcases qr_cond h with ⟨hb, h⟩ | ⟨hb, h⟩
      · refine qr_t hb rfl ?_
        change qm_E _ _ _ (44, [some (vR 10 0), some (vR 2 0), some (vR 4 0), some (vI a3)], [], qp_H s x e, (0, 0)) _
        iterate 2 refine qm_E_next rfl ?_
        exact ih h
      · refine qr_f hb rfl ?_
        change qm_E _ _ _ (16, [some (vR 10 0), some (vR 2 0), some (vR 4 0), some (vI a3)], [], qp_H s x e, (0, 0)) _
        iterate 4 refine qm_E_next rfl ?_
        obtain ⟨hb, h⟩ := qr_inb h
        refine qr_aaload hb rfl rfl rfl ?_
        change qm_E _ _ _ (23, [some (vR 10 0), some (vR 2 0), some (vR 4 0), some (vI a3)], [vR 14 (a3).toNatClampNeg, vR 11 0], qp_H s x e, (0, 0)) _
        obtain ⟨q2, hq, h⟩ := qs_bd h
        refine qm_E_call rfl (qe54 (d + 0) hq) rfl ?_
        change qm_E _ _ _ (26, [some (vR 10 0), some (vR 2 0), some (vR 4 0), some (vI a3)], [vI (q2.1)], qp_H q2.2 x e, (0, 0)) _
        rcases qr_cond h with ⟨hb, h⟩ | ⟨hb, h⟩
        · refine qr_t hb rfl ?_
          change qm_E _ _ _ (44, [some (vR 10 0), some (vR 2 0), some (vR 4 0), some (vI a3)], [], qp_H q2.2 x e, (0, 0)) _
          iterate 2 refine qm_E_next rfl ?_
          exact ih h
        · refine qr_f hb rfl ?_
          change qm_E _ _ _ (29, [some (vR 10 0), some (vR 2 0), some (vR 4 0), some (vI a3)], [], qp_H q2.2 x e, (0, 0)) _
          iterate 4 refine qm_E_next rfl ?_
          obtain ⟨hb, h⟩ := qr_inb h
          refine qr_aaload hb rfl rfl rfl ?_
          change qm_E _ _ _ (36, [some (vR 10 0), some (vR 2 0), some (vR 4 0), some (vI a3)], [vR 14 (a3).toNatClampNeg, vR 11 0], qp_H q2.2 x e, (0, 0)) _
          obtain ⟨q3, hq, h⟩ := qs_bd h
          refine qm_E_call rfl (qe64 (d + 1) hq) rfl ?_
          change qm_E _ _ _ (39, [some (vR 10 0), some (vR 2 0), some (vR 4 0), some (vI a3)], [vI q3], qp_H q2.2 x e, (0, 0)) _
          rcases qr_cond h with ⟨hb, h⟩ | ⟨hb, h⟩
          · refine qr_t hb rfl ?_
            change qm_E _ _ _ (44, [some (vR 10 0), some (vR 2 0), some (vR 4 0), some (vI a3)], [], qp_H q2.2 x e, (0, 0)) _
            iterate 2 refine qm_E_next rfl ?_
            exact ih h
          · refine qr_f hb rfl ?_
            change qm_E _ _ _ (42, [some (vR 10 0), some (vR 2 0), some (vR 4 0), some (vI a3)], [], qp_H q2.2 x e, (0, 0)) _
            iterate 1 refine qm_E_next rfl ?_
            cases h
            exact qr_iret (Or.inl rfl) rfl rfl
def qf63 (s : qp_S) : Option (Int32 × qp_S) := qf63_2 4096 (0 : Int32) s
theorem qe63 (d : Nat) {L : Nat} {xs : Nat → Int32} {x : Int64} {e : Nat → Nat}     {s : qp_S} {r : Int32 × qp_S} (h : qf63   s = some r) : qm_E (qz_ro L xs) (d + 4) 63 (0, qm_ent 63 [vR 10 0, vR 2 0, vR 4 0], [], qp_H s x e, (0, 0)) (qf_v r.1 r.2 x e) := by
  unfold qf63 at h
  iterate 2 refine qm_E_next rfl ?_
  exact qe63_2 d  h
/-! PeriodKernel.Mode isNone -/
def qf67 (n0 : Nat) (s : qp_S) : Option (Int32) := (bif qm_cmp .ne (s 22 n0 0) (0 : Int32) then some (0 : Int32) else some (1 : Int32))
theorem qe67 (d : Nat) {L : Nat} {xs : Nat → Int32} {x : Int64} {e : Nat → Nat}    {n0 : Nat} {s : qp_S} {r : Int32} (h : qf67  n0 s = some r) : qm_E (qz_ro L xs) (d + 0) 67 (0, qm_ent 67 [vR 22 n0], [], qp_H s x e, (0, 0)) (qf_v r s x e) := by
  unfold qf67 at h
  iterate 2 refine qm_E_next rfl ?_
  rcases qr_cond h with ⟨hb, h⟩ | ⟨hb, h⟩
  · refine qr_t hb rfl ?_
    change qm_E _ _ _ (11, [some (vR 22 n0)], [], qp_H s x e, (0, 0)) _
    iterate 1 refine qm_E_next rfl ?_
    cases h
    exact qr_iret (Or.inr ⟨rfl, Or.inl rfl⟩) rfl rfl
  · refine qr_f hb rfl ?_
    change qm_E _ _ _ (7, [some (vR 22 n0)], [], qp_H s x e, (0, 0)) _
    iterate 2 refine qm_E_next rfl ?_
    cases h
    exact qr_iret (Or.inr ⟨rfl, Or.inr rfl⟩) rfl rfl
/-! PeriodKernel.Mode interval -/
def qf69 (n0 : Nat) (a1 : Int32) (s : qp_S) : Option (Int32) := ((qf53 n0 a1 s).bind fun q1 => (bif qm_cmp .eq q1 (0 : Int32) then some (0 : Int32) else (if qm_inb a1 8 = true then (if (s 23 n0 (a1).toNatClampNeg) = 0 then none else some ((s 22 n0 0) / (s 23 n0 (a1).toNatClampNeg))) else none)))
theorem qe69 (d : Nat) {L : Nat} {xs : Nat → Int32} {x : Int64} {e : Nat → Nat}    {n0 : Nat} {a1 : Int32} {s : qp_S} {r : Int32} (h : qf69  n0 a1 s = some r) : qm_E (qz_ro L xs) (d + 1) 69 (0, qm_ent 69 [vR 22 n0, vI a1], [], qp_H s x e, (0, 0)) (qf_v r s x e) := by
  unfold qf69 at h
  iterate 2 refine qm_E_next rfl ?_
  obtain ⟨q1, hq, h⟩ := qs_bd h
  refine qm_E_call rfl (qe53 (d + 0) hq) rfl ?_
  change qm_E _ _ _ (5, [some (vR 22 n0), some (vI a1)], [vI q1], qp_H s x e, (0, 0)) _
  rcases qr_cond h with ⟨hb, h⟩ | ⟨hb, h⟩
  · refine qr_t hb rfl ?_
    change qm_E _ _ _ (22, [some (vR 22 n0), some (vI a1)], [], qp_H s x e, (0, 0)) _
    iterate 1 refine qm_E_next rfl ?_
    cases h
    exact qr_iret (Or.inl rfl) rfl rfl
  · refine qr_f hb rfl ?_
    change qm_E _ _ _ (8, [some (vR 22 n0), some (vI a1)], [], qp_H s x e, (0, 0)) _
    iterate 5 refine qm_E_next rfl ?_
    obtain ⟨hb, h⟩ := qr_inb h
    refine qr_iaload hb rfl rfl rfl rfl ?_
    change qm_E _ _ _ (18, [some (vR 22 n0), some (vI a1)], [vI (s 23 n0 (a1).toNatClampNeg), vI (s 22 n0 0)], qp_H s x e, (0, 0)) _
    obtain ⟨hb, h⟩ := qr_nz h
    refine qr_idiv hb rfl rfl ?_
    change qm_E _ _ _ (19, [some (vR 22 n0), some (vI a1)], [vI ((s 22 n0 0) / (s 23 n0 (a1).toNatClampNeg))], qp_H s x e, (0, 0)) _
    iterate 1 refine qm_E_next rfl ?_
    cases h
    exact qr_iret (Or.inl rfl) rfl rfl
/-! PeriodKernel.ProgramLook isUneven -/
def qf68_2  : Nat → Nat → Int32 → qp_S → Option (Int32)
  | 0, _, _, _ => none
  | n + 1, n0, a1, s => (bif qm_cmp .ge a1 (8 : Int32) then some (0 : Int32) else ((qf53 n0 a1 s).bind fun q1 => (bif qm_cmp .eq q1 (0 : Int32) then qf68_2  n n0 (a1 + (1 : Int32)) s else ((qf69 n0 a1 s).bind fun q2 => (if qm_inb a1 8 = true then (bif qm_cmp .eq (q2 * (s 23 n0 (a1).toNatClampNeg)) (s 22 n0 0) then qf68_2  n n0 (a1 + (1 : Int32)) s else some (1 : Int32)) else none)))))
theorem qe68_2 (d : Nat) {L : Nat} {xs : Nat → Int32} {x : Int64} {e : Nat → Nat}   : ∀ {n : Nat}  {n0 : Nat} {a1 : Int32} {s : qp_S} {r : Int32}, qf68_2  n n0 a1 s = some r → qm_E (qz_ro L xs) (d + 2) 68 (2, [some (vR 22 n0), some (vI a1)], [], qp_H s x e, (0, 0)) (qf_v r s x e) := by
  intro n
  induction n with
  | zero => intro  n0 a1 s r h; cases h
  | succ n ih =>
    intro  n0 a1 s r h
    unfold qf68_2 at h
    iterate 2 refine qm_E_next rfl ?_
    rcases qr_cond h with ⟨hb, h⟩ | ⟨hb, h⟩
    · refine qr_t hb rfl ?_
      change qm_E _ _ _ (43, [some (vR 22 n0), some (vI a1)], [], qp_H s x e, (0, 0)) _
      iterate 1 refine qm_E_next rfl ?_
      cases h
      exact qr_iret (Or.inr ⟨rfl, Or.inl rfl⟩) rfl rfl
    · refine qr_f hb rfl ?_
      change qm_E _ _ _ (8, [some (vR 22 n0), some (vI a1)], [], qp_H s x e, (0, 0)) _
      iterate 2 refine qm_E_next rfl ?_
      obtain ⟨q1, hq, h⟩ := qs_bd h
      refine qm_E_call rfl (qe53 (d + 1) hq) rfl ?_
      change qm_E _ _ _ (13, [some (vR 22 n0), some (vI a1)], [vI q1], qp_H s x e, (0, 0)) _
      rcases qr_cond h with ⟨hb, h⟩ | ⟨hb, h⟩
      · refine qr_t hb rfl ?_
        change qm_E _ _ _ (37, [some (vR 22 n0), some (vI a1)], [], qp_H s x e, (0, 0)) _
        iterate 2 refine qm_E_next rfl ?_
        exact ih h
      · refine qr_f hb rfl ?_
        change qm_E _ _ _ (16, [some (vR 22 n0), some (vI a1)], [], qp_H s x e, (0, 0)) _
        iterate 2 refine qm_E_next rfl ?_
        obtain ⟨q2, hq, h⟩ := qs_bd h
        refine qm_E_call rfl (qe69 (d + 0) hq) rfl ?_
        change qm_E _ _ _ (21, [some (vR 22 n0), some (vI a1)], [vI q2], qp_H s x e, (0, 0)) _
        iterate 3 refine qm_E_next rfl ?_
        obtain ⟨hb, h⟩ := qr_inb h
        refine qr_iaload hb rfl rfl rfl rfl ?_
        change qm_E _ _ _ (27, [some (vR 22 n0), some (vI a1)], [vI (s 23 n0 (a1).toNatClampNeg), vI q2], qp_H s x e, (0, 0)) _
        iterate 3 refine qm_E_next rfl ?_
        rcases qr_cond h with ⟨hb, h⟩ | ⟨hb, h⟩
        · refine qr_t hb rfl ?_
          change qm_E _ _ _ (37, [some (vR 22 n0), some (vI a1)], [], qp_H s x e, (0, 0)) _
          iterate 2 refine qm_E_next rfl ?_
          exact ih h
        · refine qr_f hb rfl ?_
          change qm_E _ _ _ (35, [some (vR 22 n0), some (vI a1)], [], qp_H s x e, (0, 0)) _
          iterate 1 refine qm_E_next rfl ?_
          cases h
          exact qr_iret (Or.inr ⟨rfl, Or.inr rfl⟩) rfl rfl
def qf68 (n0 : Nat) (s : qp_S) : Option (Int32) := qf68_2 4096 n0 (0 : Int32) s
theorem qe68 (d : Nat) {L : Nat} {xs : Nat → Int32} {x : Int64} {e : Nat → Nat}    {n0 : Nat} {s : qp_S} {r : Int32} (h : qf68  n0 s = some r) : qm_E (qz_ro L xs) (d + 2) 68 (0, qm_ent 68 [vR 22 n0], [], qp_H s x e, (0, 0)) (qf_v r s x e) := by
  unfold qf68 at h
  iterate 2 refine qm_E_next rfl ?_
  exact qe68_2 d  h
/-! PeriodKernel.ProgramLook findUnevenMode -/
def qf66_13  : Nat → Int32 → qp_S → Option (Int32)
  | 0, _, _ => none
  | n + 1, a1, s => (bif qm_cmp .ge a1 (4 : Int32) then some (-1 : Int32) else (if qm_inb a1 4 = true then ((qf68 (a1).toNatClampNeg s).bind fun q2 => (bif qm_cmp .eq q2 (0 : Int32) then qf66_13  n (a1 + (1 : Int32)) s else some a1)) else none))
theorem qe66_13 (d : Nat) {L : Nat} {xs : Nat → Int32} {x : Int64} {e : Nat → Nat}   : ∀ {n : Nat}  {a1 : Int32} {s : qp_S} {r : Int32}, qf66_13  n a1 s = some r → qm_E (qz_ro L xs) (d + 3) 66 (13, [some (vR 4 0), some (vI a1)], [], qp_H s x e, (0, 0)) (qf_v r s x e) := by
  intro n
  induction n with
  | zero => intro  a1 s r h; cases h
  | succ n ih =>
    intro  a1 s r h
    unfold qf66_13 at h
    iterate 2 refine qm_E_next rfl ?_
    rcases qr_cond h with ⟨hb, h⟩ | ⟨hb, h⟩
    · refine qr_t hb rfl ?_
      change qm_E _ _ _ (35, [some (vR 4 0), some (vI a1)], [], qp_H s x e, (0, 0)) _
      iterate 1 refine qm_E_next rfl ?_
      cases h
      exact qr_iret (Or.inl rfl) rfl rfl
    · refine qr_f hb rfl ?_
      change qm_E _ _ _ (18, [some (vR 4 0), some (vI a1)], [], qp_H s x e, (0, 0)) _
      iterate 2 refine qm_E_next rfl ?_
      obtain ⟨hb, h⟩ := qr_inb h
      refine qr_aaload hb rfl rfl rfl ?_
      change qm_E _ _ _ (21, [some (vR 4 0), some (vI a1)], [vR 22 (a1).toNatClampNeg], qp_H s x e, (0, 0)) _
      obtain ⟨q2, hq, h⟩ := qs_bd h
      refine qm_E_call rfl (qe68 (d + 0) hq) rfl ?_
      change qm_E _ _ _ (24, [some (vR 4 0), some (vI a1)], [vI q2], qp_H s x e, (0, 0)) _
      rcases qr_cond h with ⟨hb, h⟩ | ⟨hb, h⟩
      · refine qr_t hb rfl ?_
        change qm_E _ _ _ (29, [some (vR 4 0), some (vI a1)], [], qp_H s x e, (0, 0)) _
        iterate 2 refine qm_E_next rfl ?_
        exact ih h
      · refine qr_f hb rfl ?_
        change qm_E _ _ _ (27, [some (vR 4 0), some (vI a1)], [], qp_H s x e, (0, 0)) _
        iterate 1 refine qm_E_next rfl ?_
        cases h
        exact qr_iret (Or.inl rfl) rfl rfl
def qf66 (s : qp_S) : Option (Int32) := (if qm_inb (0 : Int32) 4 = true then ((qf67 ((0 : Int32)).toNatClampNeg s).bind fun q1 => (bif qm_cmp .eq q1 (0 : Int32) then qf66_13 4096 (0 : Int32) s else some (0 : Int32))) else none)
theorem qe66 (d : Nat) {L : Nat} {xs : Nat → Int32} {x : Int64} {e : Nat → Nat}     {s : qp_S} {r : Int32} (h : qf66   s = some r) : qm_E (qz_ro L xs) (d + 3) 66 (0, qm_ent 66 [vR 4 0], [], qp_H s x e, (0, 0)) (qf_v r s x e) := by
  unfold qf66 at h
  iterate 2 refine qm_E_next rfl ?_
  obtain ⟨hb, h⟩ := qr_inb h
  refine qr_aaload hb rfl rfl rfl ?_
  change qm_E _ _ _ (3, [some (vR 4 0), none], [vR 22 ((0 : Int32)).toNatClampNeg], qp_H s x e, (0, 0)) _
  obtain ⟨q1, hq, h⟩ := qs_bd h
  refine qm_E_call rfl (qe67 (d + 2) hq) rfl ?_
  change qm_E _ _ _ (6, [some (vR 4 0), none], [vI q1], qp_H s x e, (0, 0)) _
  rcases qr_cond h with ⟨hb, h⟩ | ⟨hb, h⟩
  · refine qr_t hb rfl ?_
    change qm_E _ _ _ (11, [some (vR 4 0), none], [], qp_H s x e, (0, 0)) _
    iterate 2 refine qm_E_next rfl ?_
    exact qe66_13 d  h
  · refine qr_f hb rfl ?_
    change qm_E _ _ _ (9, [some (vR 4 0), none], [], qp_H s x e, (0, 0)) _
    iterate 1 refine qm_E_next rfl ?_
    cases h
    exact qr_iret (Or.inl rfl) rfl rfl
/-! PeriodKernel.ProgramLook sharesPort -/
def qf71_62 (L5 : Nat → Int32 → Int32 → qp_S → Option (Int32)) (n1 : Nat) (a3 : Int32) (a4 : Int32) (b0 : Int32) (s : qp_S) : Option (Int32) := (bif qm_cmp .eq (a3 &&& b0) (0 : Int32) then L5 n1 (a3 ||| b0) (a4 + (1 : Int32)) s else some (1 : Int32))
theorem qe71_62 (d : Nat) {L : Nat} {xs : Nat → Int32} {x : Int64} {e : Nat → Nat} {L5 : Nat → Int32 → Int32 → qp_S → Option (Int32)} (H5 : ∀ {u2 : Option qm_V} {u5 : Option qm_V} {u6 : Option qm_V} {n1 : Nat} {a3 : Int32} {a4 : Int32} {s : qp_S} {r : Int32}, L5 n1 a3 a4 s = some r → qm_E (qz_ro L xs) (d + 1) 71 (5, [some (vR 2 0), some (vR 22 n1), u2, some (vI a3), some (vI a4), u5, u6], [], qp_H s x e, (0, 0)) (qf_v r s x e)) {u2 : Option qm_V} {u5 : Option qm_V} {u6 : Option qm_V} {n1 : Nat} {a3 : Int32} {a4 : Int32} {b0 : Int32} {s : qp_S} {r : Int32} (h : qf71_62 L5 n1 a3 a4 b0 s = some r) : qm_E (qz_ro L xs) (d + 1) 71 (62, [some (vR 2 0), some (vR 22 n1), u2, some (vI a3), some (vI a4), u5, u6], [vI b0], qp_H s x e, (0, 0)) (qf_v r s x e) := by
  unfold qf71_62 at h
  iterate 4 refine qm_E_next rfl ?_
  rcases qr_cond h with ⟨hb, h⟩ | ⟨hb, h⟩
  · refine qr_t hb rfl ?_
    change qm_E _ _ _ (73, [some (vR 2 0), some (vR 22 n1), u2, some (vI a3), some (vI a4), u5, some (vI b0)], [], qp_H s x e, (0, 0)) _
    iterate 6 refine qm_E_next rfl ?_
    exact H5 h
  · refine qr_f hb rfl ?_
    change qm_E _ _ _ (71, [some (vR 2 0), some (vR 22 n1), u2, some (vI a3), some (vI a4), u5, some (vI b0)], [], qp_H s x e, (0, 0)) _
    iterate 1 refine qm_E_next rfl ?_
    cases h
    exact qr_iret (Or.inr ⟨rfl, Or.inr rfl⟩) rfl rfl
def qf71_61 (L5 : Nat → Int32 → Int32 → qp_S → Option (Int32)) (n1 : Nat) (a3 : Int32) (a4 : Int32) (s : qp_S) : Option (Int32) := qf71_62 L5 n1 a3 a4 (0 : Int32) s
theorem qe71_61 (d : Nat) {L : Nat} {xs : Nat → Int32} {x : Int64} {e : Nat → Nat} {L5 : Nat → Int32 → Int32 → qp_S → Option (Int32)} (H5 : ∀ {u2 : Option qm_V} {u5 : Option qm_V} {u6 : Option qm_V} {n1 : Nat} {a3 : Int32} {a4 : Int32} {s : qp_S} {r : Int32}, L5 n1 a3 a4 s = some r → qm_E (qz_ro L xs) (d + 1) 71 (5, [some (vR 2 0), some (vR 22 n1), u2, some (vI a3), some (vI a4), u5, u6], [], qp_H s x e, (0, 0)) (qf_v r s x e)) {u2 : Option qm_V} {u5 : Option qm_V} {u6 : Option qm_V} {n1 : Nat} {a3 : Int32} {a4 : Int32} {s : qp_S} {r : Int32} (h : qf71_61 L5 n1 a3 a4 s = some r) : qm_E (qz_ro L xs) (d + 1) 71 (61, [some (vR 2 0), some (vR 22 n1), u2, some (vI a3), some (vI a4), u5, u6], [], qp_H s x e, (0, 0)) (qf_v r s x e) := by
  unfold qf71_61 at h
  iterate 1 refine qm_E_next rfl ?_
  exact qe71_62 d (fun h => H5 h) h
def qf71_5  : Nat → Nat → Int32 → Int32 → qp_S → Option (Int32)
  | 0, _, _, _, _ => none
  | n + 1, n1, a3, a4, s => (bif qm_cmp .ge a4 (48 : Int32) then some (0 : Int32) else (if (6 : Int32) = 0 then none else (if qm_inb (a4 / (6 : Int32)) 8 = true then (if (6 : Int32) = 0 then none else (if qm_inb (a4 - a4 / (6 : Int32) * (6 : Int32)) 6 = true then (if (6 : Int32) = 0 then none else ((qf53 n1 (a4 / (6 : Int32)) s).bind fun q1 => (bif qm_cmp .eq q1 (0 : Int32) then qf71_61 (qf71_5  n) n1 a3 a4 s else (bif qm_cmp .ne (s 16 (6 * ((a4 / (6 : Int32))).toNatClampNeg + ((a4 - a4 / (6 : Int32) * (6 : Int32))).toNatClampNeg) 0) (1 : Int32) then qf71_61 (qf71_5  n) n1 a3 a4 s else qf71_62 (qf71_5  n) n1 a3 a4 ((1 : Int32) <<< ((s 16 (6 * ((a4 / (6 : Int32))).toNatClampNeg + ((a4 - a4 / (6 : Int32) * (6 : Int32))).toNatClampNeg) 1) &&& 31)) s)))) else none)) else none)))
theorem qe71_5 (d : Nat) {L : Nat} {xs : Nat → Int32} {x : Int64} {e : Nat → Nat}   : ∀ {n : Nat} {u2 : Option qm_V} {u5 : Option qm_V} {u6 : Option qm_V} {n1 : Nat} {a3 : Int32} {a4 : Int32} {s : qp_S} {r : Int32}, qf71_5  n n1 a3 a4 s = some r → qm_E (qz_ro L xs) (d + 1) 71 (5, [some (vR 2 0), some (vR 22 n1), u2, some (vI a3), some (vI a4), u5, u6], [], qp_H s x e, (0, 0)) (qf_v r s x e) := by
  intro n
  induction n with
  | zero => intro u2 u5 u6 n1 a3 a4 s r h; cases h
  | succ n ih =>
    intro u2 u5 u6 n1 a3 a4 s r h
    unfold qf71_5 at h
    iterate 2 refine qm_E_next rfl ?_
    rcases qr_cond h with ⟨hb, h⟩ | ⟨hb, h⟩
    · refine qr_t hb rfl ?_
      change qm_E _ _ _ (84, [some (vR 2 0), some (vR 22 n1), u2, some (vI a3), some (vI a4), u5, u6], [], qp_H s x e, (0, 0)) _
      iterate 1 refine qm_E_next rfl ?_
      cases h
      exact qr_iret (Or.inr ⟨rfl, Or.inl rfl⟩) rfl rfl
    · refine qr_f hb rfl ?_
      change qm_E _ _ _ (12, [some (vR 2 0), some (vR 22 n1), u2, some (vI a3), some (vI a4), u5, u6], [], qp_H s x e, (0, 0)) _
      iterate 3 refine qm_E_next rfl ?_
      obtain ⟨hb, h⟩ := qr_nz h
      refine qr_idiv hb rfl rfl ?_
      change qm_E _ _ _ (18, [some (vR 2 0), some (vR 22 n1), u2, some (vI a3), some (vI a4), u5, u6], [vI (a4 / (6 : Int32)), vR 2 0], qp_H s x e, (0, 0)) _
      obtain ⟨hb, h⟩ := qr_inb h
      refine qr_aaload hb rfl rfl rfl ?_
      change qm_E _ _ _ (19, [some (vR 2 0), some (vR 22 n1), u2, some (vI a3), some (vI a4), u5, u6], [vR 14 ((a4 / (6 : Int32))).toNatClampNeg], qp_H s x e, (0, 0)) _
      iterate 3 refine qm_E_next rfl ?_
      obtain ⟨hb, h⟩ := qr_nz h
      refine qr_irem hb rfl rfl ?_
      change qm_E _ _ _ (27, [some (vR 2 0), some (vR 22 n1), u2, some (vI a3), some (vI a4), u5, u6], [vI (a4 - a4 / (6 : Int32) * (6 : Int32)), vR 15 ((a4 / (6 : Int32))).toNatClampNeg], qp_H s x e, (0, 0)) _
      obtain ⟨hb, h⟩ := qr_inb h
      refine qr_aaload hb rfl rfl rfl ?_
      change qm_E _ _ _ (28, [some (vR 2 0), some (vR 22 n1), u2, some (vI a3), some (vI a4), u5, u6], [vR 16 (6 * ((a4 / (6 : Int32))).toNatClampNeg + ((a4 - a4 / (6 : Int32) * (6 : Int32))).toNatClampNeg)], qp_H s x e, (0, 0)) _
      iterate 4 refine qm_E_next rfl ?_
      obtain ⟨hb, h⟩ := qr_nz h
      refine qr_idiv hb rfl rfl ?_
      change qm_E _ _ _ (36, [some (vR 2 0), some (vR 22 n1), u2, some (vI a3), some (vI a4), some (vR 16 (6 * ((a4 / (6 : Int32))).toNatClampNeg + ((a4 - a4 / (6 : Int32) * (6 : Int32))).toNatClampNeg)), u6], [vI (a4 / (6 : Int32)), vR 22 n1], qp_H s x e, (0, 0)) _
      obtain ⟨q1, hq, h⟩ := qs_bd h
      refine qm_E_call rfl (qe53 (d + 0) hq) rfl ?_
      change qm_E _ _ _ (39, [some (vR 2 0), some (vR 22 n1), u2, some (vI a3), some (vI a4), some (vR 16 (6 * ((a4 / (6 : Int32))).toNatClampNeg + ((a4 - a4 / (6 : Int32) * (6 : Int32))).toNatClampNeg)), u6], [vI q1], qp_H s x e, (0, 0)) _
      rcases qr_cond h with ⟨hb, h⟩ | ⟨hb, h⟩
      · refine qr_t hb rfl ?_
        exact qe71_61 d (fun h => ih h) h
      · refine qr_f hb rfl ?_
        change qm_E _ _ _ (42, [some (vR 2 0), some (vR 22 n1), u2, some (vI a3), some (vI a4), some (vR 16 (6 * ((a4 / (6 : Int32))).toNatClampNeg + ((a4 - a4 / (6 : Int32) * (6 : Int32))).toNatClampNeg)), u6], [], qp_H s x e, (0, 0)) _
        iterate 3 refine qm_E_next rfl ?_
        rcases qr_cond h with ⟨hb, h⟩ | ⟨hb, h⟩
        · refine qr_t hb rfl ?_
          exact qe71_61 d (fun h => ih h) h
        · refine qr_f hb rfl ?_
          change qm_E _ _ _ (51, [some (vR 2 0), some (vR 22 n1), u2, some (vI a3), some (vI a4), some (vR 16 (6 * ((a4 / (6 : Int32))).toNatClampNeg + ((a4 - a4 / (6 : Int32) * (6 : Int32))).toNatClampNeg)), u6], [], qp_H s x e, (0, 0)) _
          iterate 5 refine qm_E_next rfl ?_
          exact qe71_62 d (fun h => ih h) h
def qf71 (n1 : Nat) (a2 : Int32) (s : qp_S) : Option (Int32) := qf71_5 4096 n1 a2 (0 : Int32) s
theorem qe71 (d : Nat) {L : Nat} {xs : Nat → Int32} {x : Int64} {e : Nat → Nat}    {n1 : Nat} {a2 : Int32} {s : qp_S} {r : Int32} (h : qf71  n1 a2 s = some r) : qm_E (qz_ro L xs) (d + 1) 71 (0, qm_ent 71 [vR 2 0, vR 22 n1, vI a2], [], qp_H s x e, (0, 0)) (qf_v r s x e) := by
  unfold qf71 at h
  iterate 4 refine qm_E_next rfl ?_
  exact qe71_5 d  h
/-! PeriodKernel.ProgramLook findSharedPort -/
def qf70_55  : Nat → Int32 → Int32 → qp_S → Option (Int32)
  | 0, _, _, _ => none
  | n + 1, a3, a4, s => (bif qm_cmp .ge a4 (4 : Int32) then some (-1 : Int32) else (if qm_inb a4 4 = true then ((qf71 (a4).toNatClampNeg a3 s).bind fun q1 => (bif qm_cmp .eq q1 (0 : Int32) then qf70_55  n a3 (a4 + (1 : Int32)) s else some a4)) else none))
theorem qe70_55 (d : Nat) {L : Nat} {xs : Nat → Int32} {x : Int64} {e : Nat → Nat}   : ∀ {n : Nat} {u2 : Option qm_V} {u5 : Option qm_V} {a3 : Int32} {a4 : Int32} {s : qp_S} {r : Int32}, qf70_55  n a3 a4 s = some r → qm_E (qz_ro L xs) (d + 2) 70 (55, [some (vR 2 0), some (vR 4 0), u2, some (vI a3), some (vI a4), u5], [], qp_H s x e, (0, 0)) (qf_v r s x e) := by
  intro n
  induction n with
  | zero => intro u2 u5 a3 a4 s r h; cases h
  | succ n ih =>
    intro u2 u5 a3 a4 s r h
    unfold qf70_55 at h
    iterate 2 refine qm_E_next rfl ?_
    rcases qr_cond h with ⟨hb, h⟩ | ⟨hb, h⟩
    · refine qr_t hb rfl ?_
      change qm_E _ _ _ (82, [some (vR 2 0), some (vR 4 0), u2, some (vI a3), some (vI a4), u5], [], qp_H s x e, (0, 0)) _
      iterate 1 refine qm_E_next rfl ?_
      cases h
      exact qr_iret (Or.inl rfl) rfl rfl
    · refine qr_f hb rfl ?_
      change qm_E _ _ _ (61, [some (vR 2 0), some (vR 4 0), u2, some (vI a3), some (vI a4), u5], [], qp_H s x e, (0, 0)) _
      iterate 3 refine qm_E_next rfl ?_
      obtain ⟨hb, h⟩ := qr_inb h
      refine qr_aaload hb rfl rfl rfl ?_
      change qm_E _ _ _ (66, [some (vR 2 0), some (vR 4 0), u2, some (vI a3), some (vI a4), u5], [vR 22 (a4).toNatClampNeg, vR 2 0], qp_H s x e, (0, 0)) _
      iterate 1 refine qm_E_next rfl ?_
      obtain ⟨q1, hq, h⟩ := qs_bd h
      refine qm_E_call rfl (qe71 (d + 0) hq) rfl ?_
      change qm_E _ _ _ (70, [some (vR 2 0), some (vR 4 0), u2, some (vI a3), some (vI a4), u5], [vI q1], qp_H s x e, (0, 0)) _
      rcases qr_cond h with ⟨hb, h⟩ | ⟨hb, h⟩
      · refine qr_t hb rfl ?_
        change qm_E _ _ _ (76, [some (vR 2 0), some (vR 4 0), u2, some (vI a3), some (vI a4), u5], [], qp_H s x e, (0, 0)) _
        iterate 2 refine qm_E_next rfl ?_
        exact ih h
      · refine qr_f hb rfl ?_
        change qm_E _ _ _ (73, [some (vR 2 0), some (vR 4 0), u2, some (vI a3), some (vI a4), u5], [], qp_H s x e, (0, 0)) _
        iterate 1 refine qm_E_next rfl ?_
        cases h
        exact qr_iret (Or.inl rfl) rfl rfl
def qf70_30 (L5 : Int32 → Int32 → qp_S → Option (Int32)) (a3 : Int32) (a4 : Int32) (b0 : Int32) (s : qp_S) : Option (Int32) := (bif qm_cmp .eq (a3 &&& b0) (0 : Int32) then L5 (a3 ||| b0) (a4 + (1 : Int32)) s else some (0 : Int32))
theorem qe70_30 (d : Nat) {L : Nat} {xs : Nat → Int32} {x : Int64} {e : Nat → Nat} {L5 : Int32 → Int32 → qp_S → Option (Int32)} (H5 : ∀ {u5 : Option qm_V} {a3 : Int32} {a4 : Int32} {s : qp_S} {r : Int32}, L5 a3 a4 s = some r → qm_E (qz_ro L xs) (d + 2) 70 (5, [some (vR 2 0), some (vR 4 0), some (vR 5 0), some (vI a3), some (vI a4), u5], [], qp_H s x e, (0, 0)) (qf_v r s x e)) {u5 : Option qm_V} {a3 : Int32} {a4 : Int32} {b0 : Int32} {s : qp_S} {r : Int32} (h : qf70_30 L5 a3 a4 b0 s = some r) : qm_E (qz_ro L xs) (d + 2) 70 (30, [some (vR 2 0), some (vR 4 0), some (vR 5 0), some (vI a3), some (vI a4), u5], [vI b0], qp_H s x e, (0, 0)) (qf_v r s x e) := by
  unfold qf70_30 at h
  iterate 4 refine qm_E_next rfl ?_
  rcases qr_cond h with ⟨hb, h⟩ | ⟨hb, h⟩
  · refine qr_t hb rfl ?_
    change qm_E _ _ _ (41, [some (vR 2 0), some (vR 4 0), some (vR 5 0), some (vI a3), some (vI a4), some (vI b0)], [], qp_H s x e, (0, 0)) _
    iterate 6 refine qm_E_next rfl ?_
    exact H5 h
  · refine qr_f hb rfl ?_
    change qm_E _ _ _ (39, [some (vR 2 0), some (vR 4 0), some (vR 5 0), some (vI a3), some (vI a4), some (vI b0)], [], qp_H s x e, (0, 0)) _
    iterate 1 refine qm_E_next rfl ?_
    cases h
    exact qr_iret (Or.inl rfl) rfl rfl
def qf70_5  : Nat → Int32 → Int32 → qp_S → Option (Int32)
  | 0, _, _, _ => none
  | n + 1, a3, a4, s => (bif qm_cmp .ge a4 (8 : Int32) then qf70_55  4096 a3 (0 : Int32) s else (if qm_inb a4 8 = true then (bif qm_cmp .ne (s 5 0 (a4).toNatClampNeg) (-1 : Int32) then (if qm_inb a4 8 = true then qf70_30 (qf70_5  n) a3 a4 ((1 : Int32) <<< ((s 5 0 (a4).toNatClampNeg) &&& 31)) s else none) else qf70_30 (qf70_5  n) a3 a4 (0 : Int32) s) else none))
theorem qe70_5 (d : Nat) {L : Nat} {xs : Nat → Int32} {x : Int64} {e : Nat → Nat}   : ∀ {n : Nat} {u5 : Option qm_V} {a3 : Int32} {a4 : Int32} {s : qp_S} {r : Int32}, qf70_5  n a3 a4 s = some r → qm_E (qz_ro L xs) (d + 2) 70 (5, [some (vR 2 0), some (vR 4 0), some (vR 5 0), some (vI a3), some (vI a4), u5], [], qp_H s x e, (0, 0)) (qf_v r s x e) := by
  intro n
  induction n with
  | zero => intro u5 a3 a4 s r h; cases h
  | succ n ih =>
    intro u5 a3 a4 s r h
    unfold qf70_5 at h
    iterate 2 refine qm_E_next rfl ?_
    rcases qr_cond h with ⟨hb, h⟩ | ⟨hb, h⟩
    · refine qr_t hb rfl ?_
      change qm_E _ _ _ (52, [some (vR 2 0), some (vR 4 0), some (vR 5 0), some (vI a3), some (vI a4), u5], [], qp_H s x e, (0, 0)) _
      iterate 2 refine qm_E_next rfl ?_
      exact qe70_55 d  h
    · refine qr_f hb rfl ?_
      change qm_E _ _ _ (12, [some (vR 2 0), some (vR 4 0), some (vR 5 0), some (vI a3), some (vI a4), u5], [], qp_H s x e, (0, 0)) _
      iterate 2 refine qm_E_next rfl ?_
      obtain ⟨hb, h⟩ := qr_inb h
      refine qr_iaload hb rfl rfl rfl rfl ?_
      change qm_E _ _ _ (16, [some (vR 2 0), some (vR 4 0), some (vR 5 0), some (vI a3), some (vI a4), u5], [vI (s 5 0 (a4).toNatClampNeg)], qp_H s x e, (0, 0)) _
      iterate 1 refine qm_E_next rfl ?_
      rcases qr_cond h with ⟨hb, h⟩ | ⟨hb, h⟩
      · refine qr_t hb rfl ?_
        change qm_E _ _ _ (24, [some (vR 2 0), some (vR 4 0), some (vR 5 0), some (vI a3), some (vI a4), u5], [], qp_H s x e, (0, 0)) _
        iterate 3 refine qm_E_next rfl ?_
        obtain ⟨hb, h⟩ := qr_inb h
        refine qr_iaload hb rfl rfl rfl rfl ?_
        change qm_E _ _ _ (29, [some (vR 2 0), some (vR 4 0), some (vR 5 0), some (vI a3), some (vI a4), u5], [vI (s 5 0 (a4).toNatClampNeg), vI (1 : Int32)], qp_H s x e, (0, 0)) _
        iterate 1 refine qm_E_next rfl ?_
        exact qe70_30 d (fun h => ih h) h
      · refine qr_f hb rfl ?_
        change qm_E _ _ _ (20, [some (vR 2 0), some (vR 4 0), some (vR 5 0), some (vI a3), some (vI a4), u5], [], qp_H s x e, (0, 0)) _
        iterate 2 refine qm_E_next rfl ?_
        exact qe70_30 d (fun h => ih h) h
def qf70 (s : qp_S) : Option (Int32) := qf70_5 4096 (0 : Int32) (0 : Int32) s
theorem qe70 (d : Nat) {L : Nat} {xs : Nat → Int32} {x : Int64} {e : Nat → Nat}     {s : qp_S} {r : Int32} (h : qf70   s = some r) : qm_E (qz_ro L xs) (d + 2) 70 (0, qm_ent 70 [vR 2 0, vR 4 0, vR 5 0], [], qp_H s x e, (0, 0)) (qf_v r s x e) := by
  unfold qf70 at h
  iterate 4 refine qm_E_next rfl ?_
  exact qe70_5 d  h
