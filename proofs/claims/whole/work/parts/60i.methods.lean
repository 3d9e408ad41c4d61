/-! PeriodKernelModel isApart -/
def qf140_4  : Nat → Int32 → Int32 → Int32 → qp_S → Option (Int32)
  | 0, _, _, _, _ => none
  | n + 1, a1, a2, a3, s => (bif qm_cmp .ge a3 (16 : Int32) then (if (a2 = 0 ∨ a2 = 1) then some a2 else none) else (bif qm_cmp .eq a2 (0 : Int32) then qf140_4  n a1 (0 : Int32) (a3 + (1 : Int32)) s else ((qf141 a1 a3 s).bind fun q1 => (bif qm_cmp .ne q1 (0 : Int32) then qf140_4  n a1 (0 : Int32) (a3 + (1 : Int32)) s else (bif qm_cmp .gt a1 (0 : Int32) then qf140_4  n a1 (1 : Int32) (a3 + (1 : Int32)) s else ((qf142 a3 s).bind fun q2 => (bif qm_cmp .ge q2 (2 : Int32) then qf140_4  n a1 (0 : Int32) (a3 + (1 : Int32)) s else qf140_4  n a1 (1 : Int32) (a3 + (1 : Int32)) s)))))))
theorem qe140_4 (d : Nat) {L : Nat} {xs : Nat → Int32} {x : Int64} {e : Nat → Nat}   : ∀ {n : Nat}  {a1 : Int32} {a2 : Int32} {a3 : Int32} {s : qp_S} {r : Int32}, qf140_4  n a1 a2 a3 s = some r → qm_E (qz_ro L xs) (d + 2) 140 (4, [some (vR 30 0), some (vI a1), some (vI a2), some (vI a3)], [], qp_H s x e, (0, 0)) (qf_v r s x e) := by
  intro n
  induction n with
  | zero => intro  a1 a2 a3 s r h; cases h
  | succ n ih =>
    intro  a1 a2 a3 s r h
    unfold qf140_4 at h
    iterate 2 refine qm_E_next rfl ?_
    rcases qr_cond h with ⟨hb, h⟩ | ⟨hb, h⟩
    · refine qr_t hb rfl ?_
      change qm_E _ _ _ (48, [some (vR 30 0), some (vI a1), some (vI a2), some (vI a3)], [], qp_H s x e, (0, 0)) _
      iterate 1 refine qm_E_next rfl ?_
      obtain ⟨hz, h⟩ := qr_inb h
      cases h
      exact qr_iret (Or.inr ⟨rfl, hz⟩) rfl rfl
    · refine qr_f hb rfl ?_
      change qm_E _ _ _ (10, [some (vR 30 0), some (vI a1), some (vI a2), some (vI a3)], [], qp_H s x e, (0, 0)) _
      iterate 1 refine qm_E_next rfl ?_
      rcases qr_cond h with ⟨hb, h⟩ | ⟨hb, h⟩
      · refine qr_t hb rfl ?_
        change qm_E _ _ _ (40, [some (vR 30 0), some (vI a1), some (vI a2), some (vI a3)], [], qp_H s x e, (0, 0)) _
        iterate 4 refine qm_E_next rfl ?_
        exact ih h
      · refine qr_f hb rfl ?_
        change qm_E _ _ _ (14, [some (vR 30 0), some (vI a1), some (vI a2), some (vI a3)], [], qp_H s x e, (0, 0)) _
        iterate 3 refine qm_E_next rfl ?_
        obtain ⟨q1, hq, h⟩ := qs_bd h
        refine qm_E_call rfl (qe141 (d + 0) hq) rfl ?_
        change qm_E _ _ _ (20, [some (vR 30 0), some (vI a1), some (vI a2), some (vI a3)], [vI q1], qp_H s x e, (0, 0)) _
        rcases qr_cond h with ⟨hb, h⟩ | ⟨hb, h⟩
        · refine qr_t hb rfl ?_
          change qm_E _ _ _ (40, [some (vR 30 0), some (vI a1), some (vI a2), some (vI a3)], [], qp_H s x e, (0, 0)) _
          iterate 4 refine qm_E_next rfl ?_
          exact ih h
        · refine qr_f hb rfl ?_
          change qm_E _ _ _ (23, [some (vR 30 0), some (vI a1), some (vI a2), some (vI a3)], [], qp_H s x e, (0, 0)) _
          iterate 1 refine qm_E_next rfl ?_
          rcases qr_cond h with ⟨hb, h⟩ | ⟨hb, h⟩
          · refine qr_t hb rfl ?_
            change qm_E _ _ _ (36, [some (vR 30 0), some (vI a1), some (vI a2), some (vI a3)], [], qp_H s x e, (0, 0)) _
            iterate 5 refine qm_E_next rfl ?_
            exact ih h
          · refine qr_f hb rfl ?_
            change qm_E _ _ _ (27, [some (vR 30 0), some (vI a1), some (vI a2), some (vI a3)], [], qp_H s x e, (0, 0)) _
            iterate 2 refine qm_E_next rfl ?_
            obtain ⟨q2, hq, h⟩ := qs_bd h
            refine qm_E_call rfl (qe142 (d + 1) hq) rfl ?_
            change qm_E _ _ _ (32, [some (vR 30 0), some (vI a1), some (vI a2), some (vI a3)], [vI q2], qp_H s x e, (0, 0)) _
            iterate 1 refine qm_E_next rfl ?_
            rcases qr_cond h with ⟨hb, h⟩ | ⟨hb, h⟩
            · refine qr_t hb rfl ?_
              change qm_E _ _ _ (40, [some (vR 30 0), some (vI a1), some (vI a2), some (vI a3)], [], qp_H s x e, (0, 0)) _
              iterate 4 refine qm_E_next rfl ?_
              exact ih h
            · refine qr_f hb rfl ?_
              change qm_E _ _ _ (36, [some (vR 30 0), some (vI a1), some (vI a2), some (vI a3)], [], qp_H s x e, (0, 0)) _
              iterate 5 refine qm_E_next rfl ?_
              exact ih h
def qf140 (a1 : Int32) (s : qp_S) : Option (Int32) := qf140_4 4096 a1 (1 : Int32) (0 : Int32) s
theorem qe140 (d : Nat) {L : Nat} {xs : Nat → Int32} {x : Int64} {e : Nat → Nat}    {a1 : Int32} {s : qp_S} {r : Int32} (h : qf140  a1 s = some r) : qm_E (qz_ro L xs) (d + 2) 140 (0, qm_ent 140 [vR 30 0, vI a1], [], qp_H s x e, (0, 0)) (qf_v r s x e) := by
  unfold qf140 at h
  iterate 4 refine qm_E_next rfl ?_
  exact qe140_4 d  h
/-! PeriodKernelModel leadsOn -/
def qf143_4  : Nat → Int32 → Int32 → Int32 → qp_S → Option (Int32)
  | 0, _, _, _, _ => none
  | n + 1, a1, a2, a3, s => (if qm_inb a1 4 = true then (bif qm_cmp .ge a3 (s 44 0 (a1).toNatClampNeg) then (if (a2 = 0 ∨ a2 = 1) then some a2 else none) else (bif qm_cmp .eq a2 (0 : Int32) then qf143_4  n a1 (0 : Int32) (a3 + (1 : Int32)) s else (if qm_inb ((((16 : Int32) * a1) + ((4 : Int32) * a3)) + (3 : Int32)) 64 = true then (if qm_inb (s 43 0 (((((16 : Int32) * a1) + ((4 : Int32) * a3)) + (3 : Int32))).toNatClampNeg) 4 = true then (bif qm_cmp .le (s 41 0 ((s 43 0 (((((16 : Int32) * a1) + ((4 : Int32) * a3)) + (3 : Int32))).toNatClampNeg)).toNatClampNeg) (0 : Int32) then qf143_4  n a1 (0 : Int32) (a3 + (1 : Int32)) s else qf143_4  n a1 (1 : Int32) (a3 + (1 : Int32)) s) else none) else none))) else none)
theorem qe143_4 (d : Nat) {L : Nat} {xs : Nat → Int32} {x : Int64} {e : Nat → Nat}   : ∀ {n : Nat}  {a1 : Int32} {a2 : Int32} {a3 : Int32} {s : qp_S} {r : Int32}, qf143_4  n a1 a2 a3 s = some r → qm_E (qz_ro L xs) (d + 0) 143 (4, [some (vR 30 0), some (vI a1), some (vI a2), some (vI a3)], [], qp_H s x e, (0, 0)) (qf_v r s x e) := by
  intro n
  induction n with
  | zero => intro  a1 a2 a3 s r h; cases h
  | succ n ih =>
    intro  a1 a2 a3 s r h
    unfold qf143_4 at h
    iterate 4 refine qm_E_next rfl ?_
    obtain ⟨hb, h⟩ := qr_inb h
    refine qr_iaload hb rfl rfl rfl rfl ?_
    change qm_E _ _ _ (11, [some (vR 30 0), some (vI a1), some (vI a2), some (vI a3)], [vI (s 44 0 (a1).toNatClampNeg), vI a3], qp_H s x e, (0, 0)) _
    rcases qr_cond h with ⟨hb, h⟩ | ⟨hb, h⟩
    · refine qr_t hb rfl ?_
      change qm_E _ _ _ (53, [some (vR 30 0), some (vI a1), some (vI a2), some (vI a3)], [], qp_H s x e, (0, 0)) _
      iterate 1 refine qm_E_next rfl ?_
      obtain ⟨hz, h⟩ := qr_inb h
      cases h
      exact qr_iret (Or.inr ⟨rfl, hz⟩) rfl rfl
    · refine qr_f hb rfl ?_
      change qm_E _ _ _ (14, [some (vR 30 0), some (vI a1), some (vI a2), some (vI a3)], [], qp_H s x e, (0, 0)) _
      iterate 1 refine qm_E_next rfl ?_
      rcases qr_cond h with ⟨hb, h⟩ | ⟨hb, h⟩
      · refine qr_t hb rfl ?_
        change qm_E _ _ _ (45, [some (vR 30 0), some (vI a1), some (vI a2), some (vI a3)], [], qp_H s x e, (0, 0)) _
        iterate 4 refine qm_E_next rfl ?_
        exact ih h
      · refine qr_f hb rfl ?_
        change qm_E _ _ _ (18, [some (vR 30 0), some (vI a1), some (vI a2), some (vI a3)], [], qp_H s x e, (0, 0)) _
        iterate 6 refine qm_E_next rfl ?_
        change qm_E _ _ _ (29, [some (vR 30 0), some (vI a1), some (vI a2), some (vI a3)], [vI a1, vI (16 : Int32), vR 43 0, vR 41 0], qp_H s x e, (0, 0)) _
        iterate 6 refine qm_E_next rfl ?_
        change qm_E _ _ _ (35, [some (vR 30 0), some (vI a1), some (vI a2), some (vI a3)], [vI (3 : Int32), vI (((16 : Int32) * a1) + ((4 : Int32) * a3)), vR 43 0, vR 41 0], qp_H s x e, (0, 0)) _
        iterate 1 refine qm_E_next rfl ?_
        obtain ⟨hb, h⟩ := qr_inb h
        refine qr_iaload hb rfl rfl rfl rfl ?_
        change qm_E _ _ _ (37, [some (vR 30 0), some (vI a1), some (vI a2), some (vI a3)], [vI (s 43 0 (((((16 : Int32) * a1) + ((4 : Int32) * a3)) + (3 : Int32))).toNatClampNeg), vR 41 0], qp_H s x e, (0, 0)) _
        obtain ⟨hb, h⟩ := qr_inb h
        refine qr_iaload hb rfl rfl rfl rfl ?_
        change qm_E _ _ _ (38, [some (vR 30 0), some (vI a1), some (vI a2), some (vI a3)], [vI (s 41 0 ((s 43 0 (((((16 : Int32) * a1) + ((4 : Int32) * a3)) + (3 : Int32))).toNatClampNeg)).toNatClampNeg)], qp_H s x e, (0, 0)) _
        rcases qr_cond h with ⟨hb, h⟩ | ⟨hb, h⟩
        · refine qr_t hb rfl ?_
          change qm_E _ _ _ (45, [some (vR 30 0), some (vI a1), some (vI a2), some (vI a3)], [], qp_H s x e, (0, 0)) _
          iterate 4 refine qm_E_next rfl ?_
          exact ih h
        · refine qr_f hb rfl ?_
          change qm_E _ _ _ (41, [some (vR 30 0), some (vI a1), some (vI a2), some (vI a3)], [], qp_H s x e, (0, 0)) _
          iterate 5 refine qm_E_next rfl ?_
          exact ih h
def qf143 (a1 : Int32) (s : qp_S) : Option (Int32) := qf143_4 4096 a1 (1 : Int32) (0 : Int32) s
theorem qe143 (d : Nat) {L : Nat} {xs : Nat → Int32} {x : Int64} {e : Nat → Nat}    {a1 : Int32} {s : qp_S} {r : Int32} (h : qf143  a1 s = some r) : qm_E (qz_ro L xs) (d + 0) 143 (0, qm_ent 143 [vR 30 0, vI a1], [], qp_H s x e, (0, 0)) (qf_v r s x e) := by
  unfold qf143 at h
  iterate 4 refine qm_E_next rfl ?_
  exact qe143_4 d  h
/-! PeriodKernelModel demand -/
def qf145_30 (L6 : Int32 → Int32 → Int32 → Int32 → Int32 → qp_S → Option (Int32)) : Nat → Int32 → Int32 → Int32 → Int32 → Int32 → Int32 → Int32 → qp_S → Option (Int32)
  | 0, _, _, _, _, _, _, _, _ => none
  | n + 1, a1, a2, a3, a4, a5, a6, a7, s => (bif qm_cmp .ge a7 a6 then L6 a1 a2 a3 a4 (a5 + (1 : Int32)) s else (if qm_inb a1 4 = true then (if a6 = 0 then none else (bif qm_cmp .lt (a7 * ((s 41 0 (a1).toNatClampNeg) / a6)) a2 then qf145_30 L6 n a1 a2 a3 (a4 + (0 : Int32)) a5 a6 (a7 + (1 : Int32)) s else (bif qm_cmp .gt ((a7 + (1 : Int32)) * ((s 41 0 (a1).toNatClampNeg) / a6)) a3 then qf145_30 L6 n a1 a2 a3 (a4 + (0 : Int32)) a5 a6 (a7 + (1 : Int32)) s else (if qm_inb a5 8 = true then qf145_30 L6 n a1 a2 a3 (a4 + (s 31 0 (a5).toNatClampNeg)) a5 a6 (a7 + (1 : Int32)) s else none)))) else none))
theorem qe145_30 (d : Nat) {L : Nat} {xs : Nat → Int32} {x : Int64} {e : Nat → Nat} {L6 : Int32 → Int32 → Int32 → Int32 → Int32 → qp_S → Option (Int32)} (H6 : ∀ {u6 : Option qm_V} {u7 : Option qm_V} {u8 : Option qm_V} {a1 : Int32} {a2 : Int32} {a3 : Int32} {a4 : Int32} {a5 : Int32} {s : qp_S} {r : Int32}, L6 a1 a2 a3 a4 a5 s = some r → qm_E (qz_ro L xs) (d + 0) 145 (6, [some (vR 30 0), some (vI a1), some (vI a2), some (vI a3), some (vI a4), some (vI a5), u6, u7, u8], [], qp_H s x e, (0, 0)) (qf_v r s x e)) : ∀ {n : Nat} {u8 : Option qm_V} {a1 : Int32} {a2 : Int32} {a3 : Int32} {a4 : Int32} {a5 : Int32} {a6 : Int32} {a7 : Int32} {s : qp_S} {r : Int32}, qf145_30 L6 n a1 a2 a3 a4 a5 a6 a7 s = some r → qm_E (qz_ro L xs) (d + 0) 145 (30, [some (vR 30 0), some (vI a1), some (vI a2), some (vI a3), some (vI a4), some (vI a5), some (vI a6), some (vI a7), u8], [], qp_H s x e, (0, 0)) (qf_v r s x e) := by
  intro n
  induction n with
  | zero => intro u8 a1 a2 a3 a4 a5 a6 a7 s r h; cases h
  | succ n ih =>
    intro u8 a1 a2 a3 a4 a5 a6 a7 s r h
    unfold qf145_30 at h
    iterate 2 refine qm_E_next rfl ?_
    rcases qr_cond h with ⟨hb, h⟩ | ⟨hb, h⟩
    · refine qr_t hb rfl ?_
      change qm_E _ _ _ (90, [some (vR 30 0), some (vI a1), some (vI a2), some (vI a3), some (vI a4), some (vI a5), some (vI a6), some (vI a7), u8], [], qp_H s x e, (0, 0)) _
      iterate 2 refine qm_E_next rfl ?_
      exact H6 h
    · refine qr_f hb rfl ?_
      change qm_E _ _ _ (37, [some (vR 30 0), some (vI a1), some (vI a2), some (vI a3), some (vI a4), some (vI a5), some (vI a6), some (vI a7), u8], [], qp_H s x e, (0, 0)) _
      iterate 3 refine qm_E_next rfl ?_
      obtain ⟨hb, h⟩ := qr_inb h
      refine qr_iaload hb rfl rfl rfl rfl ?_
      change qm_E _ _ _ (43, [some (vR 30 0), some (vI a1), some (vI a2), some (vI a3), some (vI a4), some (vI a5), some (vI a6), some (vI a7), u8], [vI (s 41 0 (a1).toNatClampNeg)], qp_H s x e, (0, 0)) _
      iterate 1 refine qm_E_next rfl ?_
      obtain ⟨hb, h⟩ := qr_nz h
      refine qr_idiv hb rfl rfl ?_
      change qm_E _ _ _ (46, [some (vR 30 0), some (vI a1), some (vI a2), some (vI a3), some (vI a4), some (vI a5), some (vI a6), some (vI a7), u8], [vI ((s 41 0 (a1).toNatClampNeg) / a6)], qp_H s x e, (0, 0)) _
      iterate 6 refine qm_E_next rfl ?_
      change qm_E _ _ _ (56, [some (vR 30 0), some (vI a1), some (vI a2), some (vI a3), some (vI a4), some (vI a5), some (vI a6), some (vI a7), some (vI ((s 41 0 (a1).toNatClampNeg) / a6))], [vI a2, vI (a7 * ((s 41 0 (a1).toNatClampNeg) / a6)), vI a4], qp_H s x e, (0, 0)) _
      rcases qr_cond h with ⟨hb, h⟩ | ⟨hb, h⟩
      · refine qr_t hb rfl ?_
        change qm_E _ _ _ (80, [some (vR 30 0), some (vI a1), some (vI a2), some (vI a3), some (vI a4), some (vI a5), some (vI a6), some (vI a7), some (vI ((s 41 0 (a1).toNatClampNeg) / a6))], [vI a4], qp_H s x e, (0, 0)) _
        iterate 5 refine qm_E_next rfl ?_
        exact ih h
      · refine qr_f hb rfl ?_
        change qm_E _ _ _ (59, [some (vR 30 0), some (vI a1), some (vI a2), some (vI a3), some (vI a4), some (vI a5), some (vI a6), some (vI a7), some (vI ((s 41 0 (a1).toNatClampNeg) / a6))], [vI a4], qp_H s x e, (0, 0)) _
        iterate 6 refine qm_E_next rfl ?_
        change qm_E _ _ _ (67, [some (vR 30 0), some (vI a1), some (vI a2), some (vI a3), some (vI a4), some (vI a5), some (vI a6), some (vI a7), some (vI ((s 41 0 (a1).toNatClampNeg) / a6))], [vI a3, vI ((a7 + (1 : Int32)) * ((s 41 0 (a1).toNatClampNeg) / a6)), vI a4], qp_H s x e, (0, 0)) _
        rcases qr_cond h with ⟨hb, h⟩ | ⟨hb, h⟩
        · refine qr_t hb rfl ?_
          change qm_E _ _ _ (80, [some (vR 30 0), some (vI a1), some (vI a2), some (vI a3), some (vI a4), some (vI a5), some (vI a6), some (vI a7), some (vI ((s 41 0 (a1).toNatClampNeg) / a6))], [vI a4], qp_H s x e, (0, 0)) _
          iterate 5 refine qm_E_next rfl ?_
          exact ih h
        · refine qr_f hb rfl ?_
          change qm_E _ _ _ (70, [some (vR 30 0), some (vI a1), some (vI a2), some (vI a3), some (vI a4), some (vI a5), some (vI a6), some (vI a7), some (vI ((s 41 0 (a1).toNatClampNeg) / a6))], [vI a4], qp_H s x e, (0, 0)) _
          iterate 3 refine qm_E_next rfl ?_
          obtain ⟨hb, h⟩ := qr_inb h
          refine qr_iaload hb rfl rfl rfl rfl ?_
          change qm_E _ _ _ (77, [some (vR 30 0), some (vI a1), some (vI a2), some (vI a3), some (vI a4), some (vI a5), some (vI a6), some (vI a7), some (vI ((s 41 0 (a1).toNatClampNeg) / a6))], [vI (s 31 0 (a5).toNatClampNeg), vI a4], qp_H s x e, (0, 0)) _
          iterate 5 refine qm_E_next rfl ?_
          exact ih h
def qf145_6  : Nat → Int32 → Int32 → Int32 → Int32 → Int32 → qp_S → Option (Int32)
  | 0, _, _, _, _, _, _ => none
  | n + 1, a1, a2, a3, a4, a5, s => (bif qm_cmp .ge a5 (8 : Int32) then some a4 else (if qm_inb (((8 : Int32) * a1) + a5) 32 = true then qf145_30 (qf145_6  n) 4096 a1 a2 a3 a4 a5 (s 42 0 ((((8 : Int32) * a1) + a5)).toNatClampNeg) (0 : Int32) s else none))
theorem qe145_6 (d : Nat) {L : Nat} {xs : Nat → Int32} {x : Int64} {e : Nat → Nat}   : ∀ {n : Nat} {u6 : Option qm_V} {u7 : Option qm_V} {u8 : Option qm_V} {a1 : Int32} {a2 : Int32} {a3 : Int32} {a4 : Int32} {a5 : Int32} {s : qp_S} {r : Int32}, qf145_6  n a1 a2 a3 a4 a5 s = some r → qm_E (qz_ro L xs) (d + 0) 145 (6, [some (vR 30 0), some (vI a1), some (vI a2), some (vI a3), some (vI a4), some (vI a5), u6, u7, u8], [], qp_H s x e, (0, 0)) (qf_v r s x e) := by
  intro n
  induction n with
  | zero => intro u6 u7 u8 a1 a2 a3 a4 a5 s r h; cases h
  | succ n ih =>
    intro u6 u7 u8 a1 a2 a3 a4 a5 s r h
    unfold qf145_6 at h
    iterate 2 refine qm_E_next rfl ?_
    rcases qr_cond h with ⟨hb, h⟩ | ⟨hb, h⟩
    · refine qr_t hb rfl ?_
      change qm_E _ _ _ (96, [some (vR 30 0), some (vI a1), some (vI a2), some (vI a3), some (vI a4), some (vI a5), u6, u7, u8], [], qp_H s x e, (0, 0)) _
      iterate 1 refine qm_E_next rfl ?_
      cases h
      exact qr_iret (Or.inl rfl) rfl rfl
    · refine qr_f hb rfl ?_
      change qm_E _ _ _ (13, [some (vR 30 0), some (vI a1), some (vI a2), some (vI a3), some (vI a4), some (vI a5), u6, u7, u8], [], qp_H s x e, (0, 0)) _
      iterate 6 refine qm_E_next rfl ?_
      change qm_E _ _ _ (23, [some (vR 30 0), some (vI a1), some (vI a2), some (vI a3), some (vI a4), some (vI a5), u6, u7, u8], [vI a5, vI ((8 : Int32) * a1), vR 42 0], qp_H s x e, (0, 0)) _
      iterate 1 refine qm_E_next rfl ?_
      obtain ⟨hb, h⟩ := qr_inb h
      refine qr_iaload hb rfl rfl rfl rfl ?_
      change qm_E _ _ _ (25, [some (vR 30 0), some (vI a1), some (vI a2), some (vI a3), some (vI a4), some (vI a5), u6, u7, u8], [vI (s 42 0 ((((8 : Int32) * a1) + a5)).toNatClampNeg)], qp_H s x e, (0, 0)) _
      iterate 3 refine qm_E_next rfl ?_
      exact qe145_30 d (fun h => ih h) h
def qf145 (a1 : Int32) (a2 : Int32) (a3 : Int32) (s : qp_S) : Option (Int32) := qf145_6 4096 a1 a2 a3 (0 : Int32) (0 : Int32) s
theorem qe145 (d : Nat) {L : Nat} {xs : Nat → Int32} {x : Int64} {e : Nat → Nat}    {a1 : Int32} {a2 : Int32} {a3 : Int32} {s : qp_S} {r : Int32} (h : qf145  a1 a2 a3 s = some r) : qm_E (qz_ro L xs) (d + 0) 145 (0, qm_ent 145 [vR 30 0, vI a1, vI a2, vI a3], [], qp_H s x e, (0, 0)) (qf_v r s x e) := by
  unfold qf145 at h
  iterate 4 refine qm_E_next rfl ?_
  exact qe145_6 d  h
/-! PeriodKernelModel hasTime -/
def qf144_16 (L2 : Int32 → Int32 → qp_S → Option (Int32)) : Nat → Int32 → Int32 → Int32 → qp_S → Option (Int32)
  | 0, _, _, _, _ => none
  | n + 1, a1, a2, a3, s => (if qm_inb a1 4 = true then (bif qm_cmp .gt a3 (s 41 0 (a1).toNatClampNeg) then L2 a1 (a2 + (1 : Int32)) s else ((qf145 a1 a2 a3 s).bind fun q1 => (bif qm_cmp .le q1 ((20 : Int32) * (a3 - a2)) then qf144_16 L2 n a1 a2 (a3 + (1 : Int32)) s else some (0 : Int32)))) else none)
theorem qe144_16 (d : Nat) {L : Nat} {xs : Nat → Int32} {x : Int64} {e : Nat → Nat} {L2 : Int32 → Int32 → qp_S → Option (Int32)} (H2 : ∀ {u3 : Option qm_V} {a1 : Int32} {a2 : Int32} {s : qp_S} {r : Int32}, L2 a1 a2 s = some r → qm_E (qz_ro L xs) (d + 1) 144 (2, [some (vR 30 0), some (vI a1), some (vI a2), u3], [], qp_H s x e, (0, 0)) (qf_v r s x e)) : ∀ {n : Nat}  {a1 : Int32} {a2 : Int32} {a3 : Int32} {s : qp_S} {r : Int32}, qf144_16 L2 n a1 a2 a3 s = some r → qm_E (qz_ro L xs) (d + 1) 144 (16, [some (vR 30 0), some (vI a1), some (vI a2), some (vI a3)], [], qp_H s x e, (0, 0)) (qf_v r s x e) := by
  intro n
  induction n with
  | zero => intro  a1 a2 a3 s r h; cases h
  | succ n ih =>
    intro  a1 a2 a3 s r h
    unfold qf144_16 at h
    iterate 4 refine qm_E_next rfl ?_
    obtain ⟨hb, h⟩ := qr_inb h
    refine qr_iaload hb rfl rfl rfl rfl ?_
    change qm_E _ _ _ (23, [some (vR 30 0), some (vI a1), some (vI a2), some (vI a3)], [vI (s 41 0 (a1).toNatClampNeg), vI a3], qp_H s x e, (0, 0)) _
    rcases qr_cond h with ⟨hb, h⟩ | ⟨hb, h⟩
    · refine qr_t hb rfl ?_
      change qm_E _ _ _ (50, [some (vR 30 0), some (vI a1), some (vI a2), some (vI a3)], [], qp_H s x e, (0, 0)) _
      iterate 2 refine qm_E_next rfl ?_
      exact H2 h
    · refine qr_f hb rfl ?_
      change qm_E _ _ _ (26, [some (vR 30 0), some (vI a1), some (vI a2), some (vI a3)], [], qp_H s x e, (0, 0)) _
      iterate 4 refine qm_E_next rfl ?_
      obtain ⟨q1, hq, h⟩ := qs_bd h
      refine qm_E_call rfl (qe145 (d + 0) hq) rfl ?_
      change qm_E _ _ _ (33, [some (vR 30 0), some (vI a1), some (vI a2), some (vI a3)], [vI q1], qp_H s x e, (0, 0)) _
      iterate 5 refine qm_E_next rfl ?_
      rcases qr_cond h with ⟨hb, h⟩ | ⟨hb, h⟩
      · refine qr_t hb rfl ?_
        change qm_E _ _ _ (44, [some (vR 30 0), some (vI a1), some (vI a2), some (vI a3)], [], qp_H s x e, (0, 0)) _
        iterate 2 refine qm_E_next rfl ?_
        exact ih h
      · refine qr_f hb rfl ?_
        change qm_E _ _ _ (42, [some (vR 30 0), some (vI a1), some (vI a2), some (vI a3)], [], qp_H s x e, (0, 0)) _
        iterate 1 refine qm_E_next rfl ?_
        cases h
        exact qr_iret (Or.inr ⟨rfl, Or.inl rfl⟩) rfl rfl
def qf144_2  : Nat → Int32 → Int32 → qp_S → Option (Int32)
  | 0, _, _, _ => none
  | n + 1, a1, a2, s => (if qm_inb a1 4 = true then (bif qm_cmp .ge a2 (s 41 0 (a1).toNatClampNeg) then some (1 : Int32) else qf144_16 (qf144_2  n) 4096 a1 a2 (a2 + (1 : Int32)) s) else none)
theorem qe144_2 (d : Nat) {L : Nat} {xs : Nat → Int32} {x : Int64} {e : Nat → Nat}   : ∀ {n : Nat} {u3 : Option qm_V} {a1 : Int32} {a2 : Int32} {s : qp_S} {r : Int32}, qf144_2  n a1 a2 s = some r → qm_E (qz_ro L xs) (d + 1) 144 (2, [some (vR 30 0), some (vI a1), some (vI a2), u3], [], qp_H s x e, (0, 0)) (qf_v r s x e) := by
  intro n
  induction n with
  | zero => intro u3 a1 a2 s r h; cases h
  | succ n ih =>
    intro u3 a1 a2 s r h
    unfold qf144_2 at h
    iterate 4 refine qm_E_next rfl ?_
    obtain ⟨hb, h⟩ := qr_inb h
    refine qr_iaload hb rfl rfl rfl rfl ?_
    change qm_E _ _ _ (9, [some (vR 30 0), some (vI a1), some (vI a2), u3], [vI (s 41 0 (a1).toNatClampNeg), vI a2], qp_H s x e, (0, 0)) _
    rcases qr_cond h with ⟨hb, h⟩ | ⟨hb, h⟩
    · refine qr_t hb rfl ?_
      change qm_E _ _ _ (56, [some (vR 30 0), some (vI a1), some (vI a2), u3], [], qp_H s x e, (0, 0)) _
      iterate 1 refine qm_E_next rfl ?_
      cases h
      exact qr_iret (Or.inr ⟨rfl, Or.inr rfl⟩) rfl rfl
    · refine qr_f hb rfl ?_
      change qm_E _ _ _ (12, [some (vR 30 0), some (vI a1), some (vI a2), u3], [], qp_H s x e, (0, 0)) _
      iterate 4 refine qm_E_next rfl ?_
      exact qe144_16 d (fun h => ih h) h
def qf144 (a1 : Int32) (s : qp_S) : Option (Int32) := qf144_2 4096 a1 (0 : Int32) s
theorem qe144 (d : Nat) {L : Nat} {xs : Nat → Int32} {x : Int64} {e : Nat → Nat}    {a1 : Int32} {s : qp_S} {r : Int32} (h : qf144  a1 s = some r) : qm_E (qz_ro L xs) (d + 1) 144 (0, qm_ent 144 [vR 30 0, vI a1], [], qp_H s x e, (0, 0)) (qf_v r s x e) := by
  unfold qf144 at h
  iterate 2 refine qm_E_next rfl ?_
  exact qe144_2 d  h
/-! PeriodKernelModel isFine -/
def qf138 (a1 : Int32) (a2 : Int32) (s : qp_S) : Option (Int32) := (bif decide ((a1).toInt < 3 ∨ 5 < (a1).toInt) then ((qf144 a2 s).bind fun q1 => (if (q1 = 0 ∨ q1 = 1) then some q1 else none)) else (bif decide (a1 = (3 : Int32)) then ((qf139 a2 s).bind fun q2 => (if (q2 = 0 ∨ q2 = 1) then some q2 else none)) else (bif decide (a1 = (4 : Int32)) then ((qf140 a2 s).bind fun q3 => (if (q3 = 0 ∨ q3 = 1) then some q3 else none)) else (bif decide (a1 = (5 : Int32)) then ((qf143 a2 s).bind fun q4 => (if (q4 = 0 ∨ q4 = 1) then some q4 else none)) else none))))
theorem qe138 (d : Nat) {L : Nat} {xs : Nat → Int32} {x : Int64} {e : Nat → Nat}    {a1 : Int32} {a2 : Int32} {s : qp_S} {r : Int32} (h : qf138  a1 a2 s = some r) : qm_E (qz_ro L xs) (d + 3) 138 (0, qm_ent 138 [vR 30 0, vI a1, vI a2], [], qp_H s x e, (0, 0)) (qf_v r s x e) := by
  unfold qf138 at h
  iterate 1 refine qm_E_next rfl ?_
  rcases qr_cond h with ⟨hb, h⟩ | ⟨-, h⟩
  · refine qr_tsd hb rfl rfl rfl ?_
    change qm_E _ _ _ (46, [some (vR 30 0), some (vI a1), some (vI a2)], [], qp_H s x e, (0, 0)) _
    iterate 2 refine qm_E_next rfl ?_
    obtain ⟨q1, hq, h⟩ := qs_bd h
    refine qm_E_call rfl (qe144 (d + 1) hq) rfl ?_
    change qm_E _ _ _ (51, [some (vR 30 0), some (vI a1), some (vI a2)], [vI q1], qp_H s x e, (0, 0)) _
    obtain ⟨hz, h⟩ := qr_inb h
    cases h
    exact qr_iret (Or.inr ⟨rfl, hz⟩) rfl rfl
  · rcases qr_cond h with ⟨hb, h⟩ | ⟨-, h⟩
    · refine qr_tsv hb rfl ?_
      change qm_E _ _ _ (28, [some (vR 30 0), some (vI a1), some (vI a2)], [], qp_H s x e, (0, 0)) _
      iterate 2 refine qm_E_next rfl ?_
      obtain ⟨q2, hq, h⟩ := qs_bd h
      refine qm_E_call rfl (qe139 (d + 2) hq) rfl ?_
      change qm_E _ _ _ (33, [some (vR 30 0), some (vI a1), some (vI a2)], [vI q2], qp_H s x e, (0, 0)) _
      obtain ⟨hz, h⟩ := qr_inb h
      cases h
      exact qr_iret (Or.inr ⟨rfl, hz⟩) rfl rfl
    · rcases qr_cond h with ⟨hb, h⟩ | ⟨-, h⟩
      · refine qr_tsv hb rfl ?_
        change qm_E _ _ _ (34, [some (vR 30 0), some (vI a1), some (vI a2)], [], qp_H s x e, (0, 0)) _
        iterate 2 refine qm_E_next rfl ?_
        obtain ⟨q3, hq, h⟩ := qs_bd h
        refine qm_E_call rfl (qe140 (d + 0) hq) rfl ?_
        change qm_E _ _ _ (39, [some (vR 30 0), some (vI a1), some (vI a2)], [vI q3], qp_H s x e, (0, 0)) _
        obtain ⟨hz, h⟩ := qr_inb h
        cases h
        exact qr_iret (Or.inr ⟨rfl, hz⟩) rfl rfl
      · rcases qr_cond h with ⟨hb, h⟩ | ⟨-, h⟩
        · refine qr_tsv hb rfl ?_
          change qm_E _ _ _ (40, [some (vR 30 0), some (vI a1), some (vI a2)], [], qp_H s x e, (0, 0)) _
          iterate 2 refine qm_E_next rfl ?_
          obtain ⟨q4, hq, h⟩ := qs_bd h
          refine qm_E_call rfl (qe143 (d + 2) hq) rfl ?_
          change qm_E _ _ _ (45, [some (vR 30 0), some (vI a1), some (vI a2)], [vI q4], qp_H s x e, (0, 0)) _
          obtain ⟨hz, h⟩ := qr_inb h
          cases h
          exact qr_iret (Or.inr ⟨rfl, hz⟩) rfl rfl
        · cases h
/-! PeriodKernelModel fault -/
def qf128_34 (L26 : Int32 → qp_S → Option (Int32 × qp_S)) : Nat → Int32 → Int32 → qp_S → Option (Int32 × qp_S)
  | 0, _, _, _ => none
  | n + 1, a2, a3, s => (bif qm_cmp .ge a3 (4 : Int32) then L26 (a2 + (1 : Int32)) s else (if qm_inb a3 4 = true then (bif qm_cmp .le (s 41 0 (a3).toNatClampNeg) (0 : Int32) then qf128_34 L26 n a2 (a3 + (1 : Int32)) s else ((qf138 a2 a3 s).bind fun q2 => (bif qm_cmp .ne q2 (0 : Int32) then qf128_34 L26 n a2 (a3 + (1 : Int32)) s else some ((((100 : Int32) * a2) + a3), s)))) else none))
theorem qe128_34 (d : Nat) {L : Nat} {xs : Nat → Int32} {x : Int64} {e : Nat → Nat} {L26 : Int32 → qp_S → Option (Int32 × qp_S)} (H26 : ∀ {u1 : Option qm_V} {u3 : Option qm_V} {a2 : Int32} {s : qp_S} {r : Int32 × qp_S}, L26 a2 s = some r → qm_E (qz_ro L xs) (d + 6) 128 (26, [some (vR 30 0), u1, some (vI a2), u3], [], qp_H s x e, (0, 0)) (qf_v r.1 r.2 x e)) : ∀ {n : Nat} {u1 : Option qm_V} {a2 : Int32} {a3 : Int32} {s : qp_S} {r : Int32 × qp_S}, qf128_34 L26 n a2 a3 s = some r → qm_E (qz_ro L xs) (d + 6) 128 (34, [some (vR 30 0), u1, some (vI a2), some (vI a3)], [], qp_H s x e, (0, 0)) (qf_v r.1 r.2 x e) := by
  intro n
  induction n with
  | zero => intro u1 a2 a3 s r h; cases h
  | succ n ih =>
    intro u1 a2 a3 s r h
    unfold qf128_34 at h
    iterate 2 refine qm_E_next rfl ?_
    rcases qr_cond h with ⟨hb, h⟩ | ⟨hb, h⟩
    · refine qr_t hb rfl ?_
      change qm_E _ _ _ (70, [some (vR 30 0), u1, some (vI a2), some (vI a3)], [], qp_H s x e, (0, 0)) _
      iterate 2 refine qm_E_next rfl ?_
      exact H26 h
    · refine qr_f hb rfl ?_
      change qm_E _ _ _ (39, [some (vR 30 0), u1, some (vI a2), some (vI a3)], [], qp_H s x e, (0, 0)) _
      iterate 3 refine qm_E_next rfl ?_
      obtain ⟨hb, h⟩ := qr_inb h
      refine qr_iaload hb rfl rfl rfl rfl ?_
      change qm_E _ _ _ (45, [some (vR 30 0), u1, some (vI a2), some (vI a3)], [vI (s 41 0 (a3).toNatClampNeg)], qp_H s x e, (0, 0)) _
      rcases qr_cond h with ⟨hb, h⟩ | ⟨hb, h⟩
      · refine qr_t hb rfl ?_
        change qm_E _ _ _ (64, [some (vR 30 0), u1, some (vI a2), some (vI a3)], [], qp_H s x e, (0, 0)) _
        iterate 2 refine qm_E_next rfl ?_
        exact ih h
      · refine qr_f hb rfl ?_
        change qm_E _ _ _ (48, [some (vR 30 0), u1, some (vI a2), some (vI a3)], [], qp_H s x e, (0, 0)) _
        iterate 3 refine qm_E_next rfl ?_
        obtain ⟨q2, hq, h⟩ := qs_bd h
        refine qm_E_call rfl (qe138 (d + 2) hq) rfl ?_
        change qm_E _ _ _ (54, [some (vR 30 0), u1, some (vI a2), some (vI a3)], [vI q2], qp_H s x e, (0, 0)) _
        rcases qr_cond h with ⟨hb, h⟩ | ⟨hb, h⟩
        · refine qr_t hb rfl ?_
          change qm_E _ _ _ (64, [some (vR 30 0), u1, some (vI a2), some (vI a3)], [], qp_H s x e, (0, 0)) _
          iterate 2 refine qm_E_next rfl ?_
          exact ih h
        · refine qr_f hb rfl ?_
          change qm_E _ _ _ (57, [some (vR 30 0), u1, some (vI a2), some (vI a3)], [], qp_H s x e, (0, 0)) _
          iterate 5 refine qm_E_next rfl ?_
          cases h
          exact qr_iret (Or.inl rfl) rfl rfl
def qf128_26  : Nat → Int32 → qp_S → Option (Int32 × qp_S)
  | 0, _, _ => none
  | n + 1, a2, s => (bif qm_cmp .ge a2 (7 : Int32) then some ((0 : Int32), s) else qf128_34 (qf128_26  n) 4096 a2 (0 : Int32) s)
theorem qe128_26 (d : Nat) {L : Nat} {xs : Nat → Int32} {x : Int64} {e : Nat → Nat}   : ∀ {n : Nat} {u1 : Option qm_V} {u3 : Option qm_V} {a2 : Int32} {s : qp_S} {r : Int32 × qp_S}, qf128_26  n a2 s = some r → qm_E (qz_ro L xs) (d + 6) 128 (26, [some (vR 30 0), u1, some (vI a2), u3], [], qp_H s x e, (0, 0)) (qf_v r.1 r.2 x e) := by
  intro n
  induction n with
  | zero => intro u1 u3 a2 s r h; cases h
  | succ n ih =>
    intro u1 u3 a2 s r h
    unfold qf128_26 at h
    iterate 2 refine qm_E_next rfl ?_
    rcases qr_cond h with ⟨hb, h⟩ | ⟨hb, h⟩
    · refine qr_t hb rfl ?_
      change qm_E _ _ _ (76, [some (vR 30 0), u1, some (vI a2), u3], [], qp_H s x e, (0, 0)) _
      iterate 1 refine qm_E_next rfl ?_
      cases h
      exact qr_iret (Or.inl rfl) rfl rfl
    · refine qr_f hb rfl ?_
      change qm_E _ _ _ (32, [some (vR 30 0), u1, some (vI a2), u3], [], qp_H s x e, (0, 0)) _
      iterate 2 refine qm_E_next rfl ?_
      exact qe128_34 d (fun h => ih h) h
def qf128 (s : qp_S) : Option (Int32 × qp_S) := ((qf129 s).bind fun q1 => (bif qm_cmp .le (q1.1) (0 : Int32) then (if qm_inb (0 : Int32) 4 = true then (bif qm_cmp .ne (q1.2 41 0 ((0 : Int32)).toNatClampNeg) (0 : Int32) then qf128_26 4096 (3 : Int32) q1.2 else some ((300 : Int32), q1.2)) else none) else some ((q1.1), q1.2)))
theorem qe128 (d : Nat) {L : Nat} {xs : Nat → Int32} {x : Int64} {e : Nat → Nat}     {s : qp_S} {r : Int32 × qp_S} (h : qf128   s = some r) : qm_E (qz_ro L xs) (d + 6) 128 (0, qm_ent 128 [vR 30 0], [], qp_H s x e, (0, 0)) (qf_v r.1 r.2 x e) := by
  unfold qf128 at h
  iterate 1 refine qm_E_next rfl ?_
  obtain ⟨q1, hq, h⟩ := qs_bd h
  refine qm_E_call rfl (qe129 (d + 0) hq) rfl ?_
  change qm_E _ _ _ (4, [some (vR 30 0), none, none, none], [vI (q1.1)], qp_H q1.2 x e, (0, 0)) _
  iterate 2 refine qm_E_next rfl ?_
  rcases qr_cond h with ⟨hb, h⟩ | ⟨hb, h⟩
  · refine qr_t hb rfl ?_
    change qm_E _ _ _ (11, [some (vR 30 0), some (vI (q1.1)), none, none], [], qp_H q1.2 x e, (0, 0)) _
    iterate 3 refine qm_E_next rfl ?_
    obtain ⟨hb, h⟩ := qr_inb h
    refine qr_iaload hb rfl rfl rfl rfl ?_
    change qm_E _ _ _ (17, [some (vR 30 0), some (vI (q1.1)), none, none], [vI (q1.2 41 0 ((0 : Int32)).toNatClampNeg)], qp_H q1.2 x e, (0, 0)) _
    rcases qr_cond h with ⟨hb, h⟩ | ⟨hb, h⟩
    · refine qr_t hb rfl ?_
      change qm_E _ _ _ (24, [some (vR 30 0), some (vI (q1.1)), none, none], [], qp_H q1.2 x e, (0, 0)) _
      iterate 2 refine qm_E_next rfl ?_
      exact qe128_26 d  h
    · refine qr_f hb rfl ?_
      change qm_E _ _ _ (20, [some (vR 30 0), some (vI (q1.1)), none, none], [], qp_H q1.2 x e, (0, 0)) _
      iterate 1 refine qm_E_next rfl ?_
      cases h
      exact qr_iret (Or.inl rfl) rfl rfl
  · refine qr_f hb rfl ?_
    change qm_E _ _ _ (9, [some (vR 30 0), some (vI (q1.1)), none, none], [], qp_H q1.2 x e, (0, 0)) _
    iterate 1 refine qm_E_next rfl ?_
    cases h
    exact qr_iret (Or.inl rfl) rfl rfl
/-! PeriodKernelModel push -/
def qf150 (a1 : Int32) (s : qp_S) : Option (Int32 × qp_S) := (if qm_inb (s 30 0 33) 9 = true then some (0, (qp_up (qp_up s 57 0 ((s 30 0 33)).toNatClampNeg a1) 30 0 33 (((qp_up s 57 0 ((s 30 0 33)).toNatClampNeg a1) 30 0 33) + (1 : Int32)))) else none)
theorem qe150 (d : Nat) {L : Nat} {xs : Nat → Int32} {x : Int64} {e : Nat → Nat}    {a1 : Int32} {s : qp_S} {r : Int32 × qp_S} (h : qf150  a1 s = some r) : qm_E (qz_ro L xs) (d + 0) 150 (0, qm_ent 150 [vR 30 0, vI a1], [], qp_H s x e, (0, 0)) (qf_u r.2 x e) := by
  unfold qf150 at h
  iterate 5 refine qm_E_next rfl ?_
  obtain ⟨hb, h⟩ := qr_inb h
  refine qr_iastore hb rfl rfl rfl rfl rfl ?_
  change qm_E _ _ _ (10, [some (vR 30 0), some (vI a1)], [], qp_H (qp_up s 57 0 ((s 30 0 33)).toNatClampNeg a1) x e, (0, 0)) _
  iterate 5 refine qm_E_next rfl ?_
  refine qr_put rfl rfl ?_
  change qm_E _ _ _ (20, [some (vR 30 0), some (vI a1)], [], qp_H (qp_up (qp_up s 57 0 ((s 30 0 33)).toNatClampNeg a1) 30 0 33 (((qp_up s 57 0 ((s 30 0 33)).toNatClampNeg a1) 30 0 33) + (1 : Int32))) x e, (0, 0)) _
  cases h
  exact qr_ret rfl rfl rfl
/-! PeriodKernelModel pop -/
def qf151 (s : qp_S) : Option (Int32 × qp_S) := (if qm_inb ((qp_up s 30 0 33 ((s 30 0 33) - (1 : Int32))) 30 0 33) 9 = true then some (((qp_up s 30 0 33 ((s 30 0 33) - (1 : Int32))) 57 0 (((qp_up s 30 0 33 ((s 30 0 33) - (1 : Int32))) 30 0 33)).toNatClampNeg), (qp_up s 30 0 33 ((s 30 0 33) - (1 : Int32)))) else none)
theorem qe151 (d : Nat) {L : Nat} {xs : Nat → Int32} {x : Int64} {e : Nat → Nat}     {s : qp_S} {r : Int32 × qp_S} (h : qf151   s = some r) : qm_E (qz_ro L xs) (d + 0) 151 (0, qm_ent 151 [vR 30 0], [], qp_H s x e, (0, 0)) (qf_v r.1 r.2 x e) := by
  unfold qf151 at h
  iterate 5 refine qm_E_next rfl ?_
  refine qr_put rfl rfl ?_
  change qm_E _ _ _ (10, [some (vR 30 0)], [], qp_H (qp_up s 30 0 33 ((s 30 0 33) - (1 : Int32))) x e, (0, 0)) _
  iterate 4 refine qm_E_next rfl ?_
  obtain ⟨hb, h⟩ := qr_inb h
  refine qr_iaload hb rfl rfl rfl rfl ?_
  change qm_E _ _ _ (19, [some (vR 30 0)], [vI ((qp_up s 30 0 33 ((s 30 0 33) - (1 : Int32))) 57 0 (((qp_up s 30 0 33 ((s 30 0 33) - (1 : Int32))) 30 0 33)).toNatClampNeg)], qp_H (qp_up s 30 0 33 ((s 30 0 33) - (1 : Int32))) x e, (0, 0)) _
  cases h
  exact qr_iret (Or.inl rfl) rfl rfl
/-! PeriodKernelModel reckon -/
def qf152 (a0 : Int32) (a1 : Int32) (a2 : Int32) (s : qp_S) : Option (Int32) := (bif decide ((a0).toInt < 4 ∨ 8 < (a0).toInt) then (bif qm_cmp .ne a1 a2 then some (0 : Int32) else some (1 : Int32)) else (bif decide (a0 = (4 : Int32)) then some (a1 + a2) else (bif decide (a0 = (5 : Int32)) then some (a1 - a2) else (bif decide (a0 = (6 : Int32)) then some (a1 * a2) else (bif decide (a0 = (7 : Int32)) then (bif qm_cmp .ne a2 (0 : Int32) then (if a2 = 0 then none else some (a1 / a2)) else some (0 : Int32)) else (bif decide (a0 = (8 : Int32)) then (bif qm_cmp .ge a1 a2 then some (0 : Int32) else some (1 : Int32)) else none))))))
theorem qe152 (d : Nat) {L : Nat} {xs : Nat → Int32} {x : Int64} {e : Nat → Nat}    {a0 : Int32} {a1 : Int32} {a2 : Int32} {s : qp_S} {r : Int32} (h : qf152  a0 a1 a2 s = some r) : qm_E (qz_ro L xs) (d + 0) 152 (0, qm_ent 152 [vI a0, vI a1, vI a2], [], qp_H s x e, (0, 0)) (qf_v r s x e) := by
  unfold qf152 at h
  iterate 1 refine qm_E_next rfl ?_
  rcases qr_cond h with ⟨hb, h⟩ | ⟨-, h⟩
  · refine qr_tsd hb rfl rfl rfl ?_
    change qm_E _ _ _ (71, [some (vI a0), some (vI a1), some (vI a2)], [], qp_H s x e, (0, 0)) _
    iterate 2 refine qm_E_next rfl ?_
    rcases qr_cond h with ⟨hb, h⟩ | ⟨hb, h⟩
    · refine qr_t hb rfl ?_
      change qm_E _ _ _ (80, [some (vI a0), some (vI a1), some (vI a2)], [], qp_H s x e, (0, 0)) _
      iterate 1 refine qm_E_next rfl ?_
      cases h
      exact qr_iret (Or.inl rfl) rfl rfl
    · refine qr_f hb rfl ?_
      change qm_E _ _ _ (76, [some (vI a0), some (vI a1), some (vI a2)], [], qp_H s x e, (0, 0)) _
      iterate 2 refine qm_E_next rfl ?_
      cases h
      exact qr_iret (Or.inl rfl) rfl rfl
  · rcases qr_cond h with ⟨hb, h⟩ | ⟨-, h⟩
    · refine qr_tsv hb rfl ?_
      change qm_E _ _ _ (36, [some (vI a0), some (vI a1), some (vI a2)], [], qp_H s x e, (0, 0)) _
      iterate 3 refine qm_E_next rfl ?_
      cases h
      exact qr_iret (Or.inl rfl) rfl rfl
    · rcases qr_cond h with ⟨hb, h⟩ | ⟨-, h⟩
      · refine qr_tsv hb rfl ?_
        change qm_E _ _ _ (40, [some (vI a0), some (vI a1), some (vI a2)], [], qp_H s x e, (0, 0)) _
        iterate 3 refine qm_E_next rfl ?_
        cases h
        exact qr_iret (Or.inl rfl) rfl rfl
      · rcases qr_cond h with ⟨hb, h⟩ | ⟨-, h⟩
        · refine qr_tsv hb rfl ?_
          change qm_E _ _ _ (44, [some (vI a0), some (vI a1), some (vI a2)], [], qp_H s x e, (0, 0)) _
          iterate 3 refine qm_E_next rfl ?_
          cases h
          exact qr_iret (Or.inl rfl) rfl rfl
        · rcases qr_cond h with ⟨hb, h⟩ | ⟨-, h⟩
          · refine qr_tsv hb rfl ?_
            change qm_E _ _ _ (48, [some (vI a0), some (vI a1), some (vI a2)], [], qp_H s x e, (0, 0)) _
            iterate 1 refine qm_E_next rfl ?_
            rcases qr_cond h with ⟨hb, h⟩ | ⟨hb, h⟩
            · refine qr_t hb rfl ?_
              change qm_E _ _ _ (56, [some (vI a0), some (vI a1), some (vI a2)], [], qp_H s x e, (0, 0)) _
              iterate 2 refine qm_E_next rfl ?_
              obtain ⟨hb, h⟩ := qr_nz h
              refine qr_idiv hb rfl rfl ?_
              change qm_E _ _ _ (59, [some (vI a0), some (vI a1), some (vI a2)], [vI (a1 / a2)], qp_H s x e, (0, 0)) _
              cases h
              exact qr_iret (Or.inl rfl) rfl rfl
            · refine qr_f hb rfl ?_
              change qm_E _ _ _ (52, [some (vI a0), some (vI a1), some (vI a2)], [], qp_H s x e, (0, 0)) _
              iterate 2 refine qm_E_next rfl ?_
              cases h
              exact qr_iret (Or.inl rfl) rfl rfl
          · rcases qr_cond h with ⟨hb, h⟩ | ⟨-, h⟩
            · refine qr_tsv hb rfl ?_
              change qm_E _ _ _ (60, [some (vI a0), some (vI a1), some (vI a2)], [], qp_H s x e, (0, 0)) _
              iterate 2 refine qm_E_next rfl ?_
              rcases qr_cond h with ⟨hb, h⟩ | ⟨hb, h⟩
              · refine qr_t hb rfl ?_
                change qm_E _ _ _ (69, [some (vI a0), some (vI a1), some (vI a2)], [], qp_H s x e, (0, 0)) _
                iterate 1 refine qm_E_next rfl ?_
                cases h
                exact qr_iret (Or.inl rfl) rfl rfl
              · refine qr_f hb rfl ?_
                change qm_E _ _ _ (65, [some (vI a0), some (vI a1), some (vI a2)], [], qp_H s x e, (0, 0)) _
                iterate 2 refine qm_E_next rfl ?_
                cases h
                exact qr_iret (Or.inl rfl) rfl rfl
            · cases h
/-! PeriodKernelModel word -/
def qf149_78 (b1 : Int32) (s : qp_S) : Option (Int32 × qp_S) := ((qf150 b1 s).bind fun q3 => some (0, q3.2))
theorem qe149_78 (d : Nat) {L : Nat} {xs : Nat → Int32} {x : Int64} {e : Nat → Nat}   {u0 : Option qm_V} {u1 : Option qm_V} {u2 : Option qm_V} {u3 : Option qm_V} {u4 : Option qm_V} {u5 : Option qm_V} {b1 : Int32} {s : qp_S} {r : Int32 × qp_S} (h : qf149_78  b1 s = some r) : qm_E (qz_ro L xs) (d + 1) 149 (78, [u0, u1, u2, u3, u4, u5], [vI b1, vR 30 0], qp_H s x e, (0, 0)) (qf_u r.2 x e) := by
  unfold qf149_78 at h
  obtain ⟨q3, hq, h⟩ := qs_bd h
  refine qm_E_call rfl (qe150 (d + 0) hq) rfl ?_
  change qm_E _ _ _ (81, [u0, u1, u2, u3, u4, u5], [], qp_H q3.2 x e, (0, 0)) _
  iterate 1 refine qm_E_next rfl ?_
  cases h
  exact qr_ret rfl rfl rfl
def qf149_48 (a2 : Int32) (a3 : Int32) (s : qp_S) : Option (Int32 × qp_S) := (bif qm_cmp .ne a2 (1 : Int32) then (bif qm_cmp .ne a2 (2 : Int32) then (if qm_inb a3 4 = true then qf149_78 (s 58 0 (a3).toNatClampNeg) s else none) else (if qm_inb a3 6 = true then qf149_78 (s 59 0 (a3).toNatClampNeg) s else none)) else qf149_78 a3 s)
theorem qe149_48 (d : Nat) {L : Nat} {xs : Nat → Int32} {x : Int64} {e : Nat → Nat}   {u1 : Option qm_V} {u4 : Option qm_V} {u5 : Option qm_V} {a2 : Int32} {a3 : Int32} {s : qp_S} {r : Int32 × qp_S} (h : qf149_48  a2 a3 s = some r) : qm_E (qz_ro L xs) (d + 1) 149 (48, [some (vR 30 0), u1, some (vI a2), some (vI a3), u4, u5], [], qp_H s x e, (0, 0)) (qf_u r.2 x e) := by
  unfold qf149_48 at h
  iterate 3 refine qm_E_next rfl ?_
  rcases qr_cond h with ⟨hb, h⟩ | ⟨hb, h⟩
  · refine qr_t hb rfl ?_
    change qm_E _ _ _ (58, [some (vR 30 0), u1, some (vI a2), some (vI a3), u4, u5], [vR 30 0], qp_H s x e, (0, 0)) _
    iterate 2 refine qm_E_next rfl ?_
    rcases qr_cond h with ⟨hb, h⟩ | ⟨hb, h⟩
    · refine qr_t hb rfl ?_
      change qm_E _ _ _ (72, [some (vR 30 0), u1, some (vI a2), some (vI a3), u4, u5], [vR 30 0], qp_H s x e, (0, 0)) _
      iterate 3 refine qm_E_next rfl ?_
      obtain ⟨hb, h⟩ := qr_inb h
      refine qr_iaload hb rfl rfl rfl rfl ?_
      exact qe149_78 d  h
    · refine qr_f hb rfl ?_
      change qm_E _ _ _ (63, [some (vR 30 0), u1, some (vI a2), some (vI a3), u4, u5], [vR 30 0], qp_H s x e, (0, 0)) _
      iterate 3 refine qm_E_next rfl ?_
      obtain ⟨hb, h⟩ := qr_inb h
      refine qr_iaload hb rfl rfl rfl rfl ?_
      change qm_E _ _ _ (69, [some (vR 30 0), u1, some (vI a2), some (vI a3), u4, u5], [vI (s 59 0 (a3).toNatClampNeg), vR 30 0], qp_H s x e, (0, 0)) _
      iterate 1 refine qm_E_next rfl ?_
      exact qe149_78 d  h
  · refine qr_f hb rfl ?_
    change qm_E _ _ _ (54, [some (vR 30 0), u1, some (vI a2), some (vI a3), u4, u5], [vR 30 0], qp_H s x e, (0, 0)) _
    iterate 2 refine qm_E_next rfl ?_
    exact qe149_78 d  h
def qf149_240 (a2 : Int32) (a4 : Int32) (s : qp_S) : Option (Int32 × qp_S) := (bif qm_cmp .eq a2 (13 : Int32) then (if qm_inb ((s 30 0 33) - (1 : Int32)) 9 = true then (if qm_inb ((s 30 0 33) - (1 : Int32)) 9 = true then ((qf150 (s 57 0 (((s 30 0 33) - (1 : Int32))).toNatClampNeg) (qp_up s 57 0 (((s 30 0 33) - (1 : Int32))).toNatClampNeg a4)).bind fun q4 => some (0, q4.2)) else none) else none) else some (0, s))
theorem qe149_240 (d : Nat) {L : Nat} {xs : Nat → Int32} {x : Int64} {e : Nat → Nat}   {u1 : Option qm_V} {u3 : Option qm_V} {u5 : Option qm_V} {a2 : Int32} {a4 : Int32} {s : qp_S} {r : Int32 × qp_S} (h : qf149_240  a2 a4 s = some r) : qm_E (qz_ro L xs) (d + 1) 149 (240, [some (vR 30 0), u1, some (vI a2), u3, some (vI a4), u5], [], qp_H s x e, (0, 0)) (qf_u r.2 x e) := by
  unfold qf149_240 at h
  iterate 2 refine qm_E_next rfl ?_
  rcases qr_cond h with ⟨hb, h⟩ | ⟨hb, h⟩
  · refine qr_t hb rfl ?_
    change qm_E _ _ _ (247, [some (vR 30 0), u1, some (vI a2), u3, some (vI a4), u5], [], qp_H s x e, (0, 0)) _
    iterate 6 refine qm_E_next rfl ?_
    change qm_E _ _ _ (257, [some (vR 30 0), u1, some (vI a2), u3, some (vI a4), u5], [vI ((s 30 0 33) - (1 : Int32)), vR 57 0], qp_H s x e, (0, 0)) _
    obtain ⟨hb, h⟩ := qr_inb h
    refine qr_iaload hb rfl rfl rfl rfl ?_
    change qm_E _ _ _ (258, [some (vR 30 0), u1, some (vI a2), u3, some (vI a4), u5], [vI (s 57 0 (((s 30 0 33) - (1 : Int32))).toNatClampNeg)], qp_H s x e, (0, 0)) _
    iterate 6 refine qm_E_next rfl ?_
    change qm_E _ _ _ (269, [some (vR 30 0), u1, some (vI a2), u3, some (vI a4), some (vI (s 57 0 (((s 30 0 33) - (1 : Int32))).toNatClampNeg))], [vI (1 : Int32), vI (s 30 0 33), vR 57 0], qp_H s x e, (0, 0)) _
    iterate 2 refine qm_E_next rfl ?_
    obtain ⟨hb, h⟩ := qr_inb h
    refine qr_iastore hb rfl rfl rfl rfl rfl ?_
    change qm_E _ _ _ (273, [some (vR 30 0), u1, some (vI a2), u3, some (vI a4), some (vI (s 57 0 (((s 30 0 33) - (1 : Int32))).toNatClampNeg))], [], qp_H (qp_up s 57 0 (((s 30 0 33) - (1 : Int32))).toNatClampNeg a4) x e, (0, 0)) _
    iterate 2 refine qm_E_next rfl ?_
    obtain ⟨q4, hq, h⟩ := qs_bd h
    refine qm_E_call rfl (qe150 (d + 0) hq) rfl ?_
    change qm_E _ _ _ (279, [some (vR 30 0), u1, some (vI a2), u3, some (vI a4), some (vI (s 57 0 (((s 30 0 33) - (1 : Int32))).toNatClampNeg))], [], qp_H q4.2 x e, (0, 0)) _
    cases h
    exact qr_ret rfl rfl rfl
  · refine qr_f hb rfl ?_
    change qm_E _ _ _ (246, [some (vR 30 0), u1, some (vI a2), u3, some (vI a4), u5], [], qp_H s x e, (0, 0)) _
    cases h
    exact qr_ret rfl rfl rfl
def qf149_224 (a2 : Int32) (a4 : Int32) (s : qp_S) : Option (Int32 × qp_S) := (bif qm_cmp .ne a2 (12 : Int32) then qf149_240 a2 a4 s else qf149_240 a2 a4 (qp_up s 30 0 33 ((s 30 0 33) + (2 : Int32))))
theorem qe149_224 (d : Nat) {L : Nat} {xs : Nat → Int32} {x : Int64} {e : Nat → Nat}   {u1 : Option qm_V} {u3 : Option qm_V} {u5 : Option qm_V} {a2 : Int32} {a4 : Int32} {s : qp_S} {r : Int32 × qp_S} (h : qf149_224  a2 a4 s = some r) : qm_E (qz_ro L xs) (d + 1) 149 (224, [some (vR 30 0), u1, some (vI a2), u3, some (vI a4), u5], [], qp_H s x e, (0, 0)) (qf_u r.2 x e) := by
  unfold qf149_224 at h
  iterate 2 refine qm_E_next rfl ?_
  rcases qr_cond h with ⟨hb, h⟩ | ⟨hb, h⟩
  · refine qr_t hb rfl ?_
    exact qe149_240 d  h
  · refine qr_f hb rfl ?_
    change qm_E _ _ _ (230, [some (vR 30 0), u1, some (vI a2), u3, some (vI a4), u5], [], qp_H s x e, (0, 0)) _
    iterate 5 refine qm_E_next rfl ?_
    refine qr_put rfl rfl ?_
    exact qe149_240 d  h
def qf149_199 (a2 : Int32) (a4 : Int32) (b1 : Int32) (s : qp_S) : Option (Int32 × qp_S) := qf149_224 a2 a4 (qp_up s 30 0 34 b1)
theorem qe149_199 (d : Nat) {L : Nat} {xs : Nat → Int32} {x : Int64} {e : Nat → Nat}   {u1 : Option qm_V} {u3 : Option qm_V} {u5 : Option qm_V} {a2 : Int32} {a4 : Int32} {b1 : Int32} {s : qp_S} {r : Int32 × qp_S} (h : qf149_199  a2 a4 b1 s = some r) : qm_E (qz_ro L xs) (d + 1) 149 (199, [some (vR 30 0), u1, some (vI a2), u3, some (vI a4), u5], [vI b1, vR 30 0], qp_H s x e, (0, 0)) (qf_u r.2 x e) := by
  unfold qf149_199 at h
  refine qr_put rfl rfl ?_
  change qm_E _ _ _ (202, [some (vR 30 0), u1, some (vI a2), u3, some (vI a4), u5], [], qp_H (qp_up s 30 0 34 b1) x e, (0, 0)) _
  iterate 1 refine qm_E_next rfl ?_
  exact qe149_224 d  h
def qf149_146 (a2 : Int32) (a3 : Int32) (a4 : Int32) (s : qp_S) : Option (Int32 × qp_S) := (bif qm_cmp .ne a2 (3 : Int32) then (bif qm_cmp .ne a2 (16 : Int32) then (bif qm_cmp .ne a2 (11 : Int32) then (bif qm_cmp .ne a2 (12 : Int32) then qf149_224 a2 a4 s else (if qm_inb ((s 30 0 33) + (1 : Int32)) 9 = true then qf149_224 a2 a4 (qp_up s 57 0 (((s 30 0 33) + (1 : Int32))).toNatClampNeg a4) else none)) else (bif qm_cmp .ne a4 (0 : Int32) then qf149_199 a2 a4 (s 30 0 34) s else qf149_199 a2 a4 a3 s)) else (if qm_inb a3 4 = true then qf149_224 a2 a4 (qp_up s 58 0 (a3).toNatClampNeg a4) else none)) else (if qm_inb a3 6 = true then qf149_224 a2 a4 (qp_up s 59 0 (a3).toNatClampNeg a4) else none))
theorem qe149_146 (d : Nat) {L : Nat} {xs : Nat → Int32} {x : Int64} {e : Nat → Nat}   {u1 : Option qm_V} {u5 : Option qm_V} {a2 : Int32} {a3 : Int32} {a4 : Int32} {s : qp_S} {r : Int32 × qp_S} (h : qf149_146  a2 a3 a4 s = some r) : qm_E (qz_ro L xs) (d + 1) 149 (146, [some (vR 30 0), u1, some (vI a2), some (vI a3), some (vI a4), u5], [], qp_H s x e, (0, 0)) (qf_u r.2 x e) := by
  unfold qf149_146 at h
  iterate 2 refine qm_E_next rfl ?_
  rcases qr_cond h with ⟨hb, h⟩ | ⟨hb, h⟩
  · refine qr_t hb rfl ?_
    change qm_E _ _ _ (162, [some (vR 30 0), u1, some (vI a2), some (vI a3), some (vI a4), u5], [], qp_H s x e, (0, 0)) _
    iterate 2 refine qm_E_next rfl ?_
    rcases qr_cond h with ⟨hb, h⟩ | ⟨hb, h⟩
    · refine qr_t hb rfl ?_
      change qm_E _ _ _ (179, [some (vR 30 0), u1, some (vI a2), some (vI a3), some (vI a4), u5], [], qp_H s x e, (0, 0)) _
      iterate 2 refine qm_E_next rfl ?_
      rcases qr_cond h with ⟨hb, h⟩ | ⟨hb, h⟩
      · refine qr_t hb rfl ?_
        change qm_E _ _ _ (205, [some (vR 30 0), u1, some (vI a2), some (vI a3), some (vI a4), u5], [], qp_H s x e, (0, 0)) _
        iterate 2 refine qm_E_next rfl ?_
        rcases qr_cond h with ⟨hb, h⟩ | ⟨hb, h⟩
        · refine qr_t hb rfl ?_
          exact qe149_224 d  h
        · refine qr_f hb rfl ?_
          change qm_E _ _ _ (211, [some (vR 30 0), u1, some (vI a2), some (vI a3), some (vI a4), u5], [], qp_H s x e, (0, 0)) _
          iterate 6 refine qm_E_next rfl ?_
          change qm_E _ _ _ (221, [some (vR 30 0), u1, some (vI a2), some (vI a3), some (vI a4), u5], [vI ((s 30 0 33) + (1 : Int32)), vR 57 0], qp_H s x e, (0, 0)) _
          iterate 1 refine qm_E_next rfl ?_
          obtain ⟨hb, h⟩ := qr_inb h
          refine qr_iastore hb rfl rfl rfl rfl rfl ?_
          exact qe149_224 d  h
      · refine qr_f hb rfl ?_
        change qm_E _ _ _ (185, [some (vR 30 0), u1, some (vI a2), some (vI a3), some (vI a4), u5], [], qp_H s x e, (0, 0)) _
        iterate 2 refine qm_E_next rfl ?_
        rcases qr_cond h with ⟨hb, h⟩ | ⟨hb, h⟩
        · refine qr_t hb rfl ?_
          change qm_E _ _ _ (195, [some (vR 30 0), u1, some (vI a2), some (vI a3), some (vI a4), u5], [vR 30 0], qp_H s x e, (0, 0)) _
          iterate 2 refine qm_E_next rfl ?_
          exact qe149_199 d  h
        · refine qr_f hb rfl ?_
          change qm_E _ _ _ (191, [some (vR 30 0), u1, some (vI a2), some (vI a3), some (vI a4), u5], [vR 30 0], qp_H s x e, (0, 0)) _
          iterate 2 refine qm_E_next rfl ?_
          exact qe149_199 d  h
    · refine qr_f hb rfl ?_
      change qm_E _ _ _ (168, [some (vR 30 0), u1, some (vI a2), some (vI a3), some (vI a4), u5], [], qp_H s x e, (0, 0)) _
      iterate 4 refine qm_E_next rfl ?_
      obtain ⟨hb, h⟩ := qr_inb h
      refine qr_iastore hb rfl rfl rfl rfl rfl ?_
      change qm_E _ _ _ (176, [some (vR 30 0), u1, some (vI a2), some (vI a3), some (vI a4), u5], [], qp_H (qp_up s 58 0 (a3).toNatClampNeg a4) x e, (0, 0)) _
      iterate 1 refine qm_E_next rfl ?_
      exact qe149_224 d  h
  · refine qr_f hb rfl ?_
    change qm_E _ _ _ (151, [some (vR 30 0), u1, some (vI a2), some (vI a3), some (vI a4), u5], [], qp_H s x e, (0, 0)) _
    iterate 4 refine qm_E_next rfl ?_
    obtain ⟨hb, h⟩ := qr_inb h
    refine qr_iastore hb rfl rfl rfl rfl rfl ?_
    change qm_E _ _ _ (159, [some (vR 30 0), u1, some (vI a2), some (vI a3), some (vI a4), u5], [], qp_H (qp_up s 59 0 (a3).toNatClampNeg a4) x e, (0, 0)) _
    iterate 1 refine qm_E_next rfl ?_
    exact qe149_224 d  h
def qf149 (a1 : Int32) (s : qp_S) : Option (Int32 × qp_S) := (bif qm_cmp .ne (a1 &&& (63 : Int32)) (0 : Int32) then (bif qm_cmp .eq (a1 &&& (63 : Int32)) (1 : Int32) then qf149_48 (a1 &&& (63 : Int32)) (a1 >>> ((6 : Int32) &&& 31)) (qp_up s 30 0 34 ((s 30 0 34) + (1 : Int32))) else (bif qm_cmp .eq (a1 &&& (63 : Int32)) (2 : Int32) then qf149_48 (a1 &&& (63 : Int32)) (a1 >>> ((6 : Int32) &&& 31)) (qp_up s 30 0 34 ((s 30 0 34) + (1 : Int32))) else (bif qm_cmp .ne (a1 &&& (63 : Int32)) (15 : Int32) then (bif qm_cmp .ne (a1 &&& (63 : Int32)) (10 : Int32) then ((qf151 (qp_up s 30 0 34 ((s 30 0 34) + (1 : Int32)))).bind fun q1 => (bif qm_cmp .gt (a1 &&& (63 : Int32)) (9 : Int32) then qf149_146 (a1 &&& (63 : Int32)) (a1 >>> ((6 : Int32) &&& 31)) (q1.1) q1.2 else (bif qm_cmp .lt (a1 &&& (63 : Int32)) (4 : Int32) then qf149_146 (a1 &&& (63 : Int32)) (a1 >>> ((6 : Int32) &&& 31)) (q1.1) q1.2 else (if qm_inb ((q1.2 30 0 33) - (1 : Int32)) 9 = true then ((qf152 (a1 &&& (63 : Int32)) (q1.2 57 0 (((q1.2 30 0 33) - (1 : Int32))).toNatClampNeg) (q1.1) q1.2).bind fun q2 => (if qm_inb ((q1.2 30 0 33) - (1 : Int32)) 9 = true then qf149_224 (a1 &&& (63 : Int32)) (q1.1) (qp_up q1.2 57 0 (((q1.2 30 0 33) - (1 : Int32))).toNatClampNeg q2) else none)) else none)))) else some (0, (qp_up (qp_up s 30 0 34 ((s 30 0 34) + (1 : Int32))) 30 0 34 (a1 >>> ((6 : Int32) &&& 31))))) else qf149_48 (a1 &&& (63 : Int32)) (a1 >>> ((6 : Int32) &&& 31)) (qp_up s 30 0 34 ((s 30 0 34) + (1 : Int32)))))) else some (0, (qp_up (qp_up s 30 0 34 ((s 30 0 34) + (1 : Int32))) 30 0 35 (1 : Int32))))
theorem qe149 (d : Nat) {L : Nat} {xs : Nat → Int32} {x : Int64} {e : Nat → Nat}    {a1 : Int32} {s : qp_S} {r : Int32 × qp_S} (h : qf149  a1 s = some r) : qm_E (qz_ro L xs) (d + 1) 149 (0, qm_ent 149 [vR 30 0, vI a1], [], qp_H s x e, (0, 0)) (qf_u r.2 x e) := by
  unfold qf149 at h
  iterate 6 refine qm_E_next rfl ?_
  change qm_E _ _ _ (8, [some (vR 30 0), some (vI a1), some (vI (a1 &&& (63 : Int32))), none, none, none], [vI (6 : Int32), vI a1], qp_H s x e, (0, 0)) _
  iterate 6 refine qm_E_next rfl ?_
  change qm_E _ _ _ (16, [some (vR 30 0), some (vI a1), some (vI (a1 &&& (63 : Int32))), some (vI (a1 >>> ((6 : Int32) &&& 31))), none, none], [vI (1 : Int32), vI (s 30 0 34), vR 30 0], qp_H s x e, (0, 0)) _
  iterate 1 refine qm_E_next rfl ?_
  refine qr_put rfl rfl ?_
  change qm_E _ _ _ (20, [some (vR 30 0), some (vI a1), some (vI (a1 &&& (63 : Int32))), some (vI (a1 >>> ((6 : Int32) &&& 31))), none, none], [], qp_H (qp_up s 30 0 34 ((s 30 0 34) + (1 : Int32))) x e, (0, 0)) _
  iterate 1 refine qm_E_next rfl ?_
  rcases qr_cond h with ⟨hb, h⟩ | ⟨hb, h⟩
  · refine qr_t hb rfl ?_
    change qm_E _ _ _ (32, [some (vR 30 0), some (vI a1), some (vI (a1 &&& (63 : Int32))), some (vI (a1 >>> ((6 : Int32) &&& 31))), none, none], [], qp_H (qp_up s 30 0 34 ((s 30 0 34) + (1 : Int32))) x e, (0, 0)) _
    iterate 2 refine qm_E_next rfl ?_
    rcases qr_cond h with ⟨hb, h⟩ | ⟨hb, h⟩
    · refine qr_t hb rfl ?_
      exact qe149_48 d  h
    · refine qr_f hb rfl ?_
      change qm_E _ _ _ (37, [some (vR 30 0), some (vI a1), some (vI (a1 &&& (63 : Int32))), some (vI (a1 >>> ((6 : Int32) &&& 31))), none, none], [], qp_H (qp_up s 30 0 34 ((s 30 0 34) + (1 : Int32))) x e, (0, 0)) _
      iterate 2 refine qm_E_next rfl ?_
      rcases qr_cond h with ⟨hb, h⟩ | ⟨hb, h⟩
      · refine qr_t hb rfl ?_
        exact qe149_48 d  h
      · refine qr_f hb rfl ?_
        change qm_E _ _ _ (42, [some (vR 30 0), some (vI a1), some (vI (a1 &&& (63 : Int32))), some (vI (a1 >>> ((6 : Int32) &&& 31))), none, none], [], qp_H (qp_up s 30 0 34 ((s 30 0 34) + (1 : Int32))) x e, (0, 0)) _
        iterate 2 refine qm_E_next rfl ?_
        rcases qr_cond h with ⟨hb, h⟩ | ⟨hb, h⟩
        · refine qr_t hb rfl ?_
          change qm_E _ _ _ (84, [some (vR 30 0), some (vI a1), some (vI (a1 &&& (63 : Int32))), some (vI (a1 >>> ((6 : Int32) &&& 31))), none, none], [], qp_H (qp_up s 30 0 34 ((s 30 0 34) + (1 : Int32))) x e, (0, 0)) _
          iterate 2 refine qm_E_next rfl ?_
          rcases qr_cond h with ⟨hb, h⟩ | ⟨hb, h⟩
          · refine qr_t hb rfl ?_
            change qm_E _ _ _ (98, [some (vR 30 0), some (vI a1), some (vI (a1 &&& (63 : Int32))), some (vI (a1 >>> ((6 : Int32) &&& 31))), none, none], [], qp_H (qp_up s 30 0 34 ((s 30 0 34) + (1 : Int32))) x e, (0, 0)) _
            iterate 1 refine qm_E_next rfl ?_
            obtain ⟨q1, hq, h⟩ := qs_bd h
            refine qm_E_call rfl (qe151 (d + 0) hq) rfl ?_
            change qm_E _ _ _ (102, [some (vR 30 0), some (vI a1), some (vI (a1 &&& (63 : Int32))), some (vI (a1 >>> ((6 : Int32) &&& 31))), none, none], [vI (q1.1)], qp_H q1.2 x e, (0, 0)) _
            iterate 3 refine qm_E_next rfl ?_
            rcases qr_cond h with ⟨hb, h⟩ | ⟨hb, h⟩
            · refine qr_t hb rfl ?_
              exact qe149_146 d  h
            · refine qr_f hb rfl ?_
              change qm_E _ _ _ (110, [some (vR 30 0), some (vI a1), some (vI (a1 &&& (63 : Int32))), some (vI (a1 >>> ((6 : Int32) &&& 31))), some (vI (q1.1)), none], [], qp_H q1.2 x e, (0, 0)) _
              iterate 2 refine qm_E_next rfl ?_
              rcases qr_cond h with ⟨hb, h⟩ | ⟨hb, h⟩
              · refine qr_t hb rfl ?_
                exact qe149_146 d  h
              · refine qr_f hb rfl ?_
                change qm_E _ _ _ (115, [some (vR 30 0), some (vI a1), some (vI (a1 &&& (63 : Int32))), some (vI (a1 >>> ((6 : Int32) &&& 31))), some (vI (q1.1)), none], [], qp_H q1.2 x e, (0, 0)) _
                iterate 6 refine qm_E_next rfl ?_
                change qm_E _ _ _ (125, [some (vR 30 0), some (vI a1), some (vI (a1 &&& (63 : Int32))), some (vI (a1 >>> ((6 : Int32) &&& 31))), some (vI (q1.1)), none], [vI ((q1.2 30 0 33) - (1 : Int32)), vR 57 0], qp_H q1.2 x e, (0, 0)) _
                iterate 6 refine qm_E_next rfl ?_
                change qm_E _ _ _ (135, [some (vR 30 0), some (vI a1), some (vI (a1 &&& (63 : Int32))), some (vI (a1 >>> ((6 : Int32) &&& 31))), some (vI (q1.1)), none], [vI (1 : Int32), vI (q1.2 30 0 33), vR 57 0, vI (a1 &&& (63 : Int32)), vI ((q1.2 30 0 33) - (1 : Int32)), vR 57 0], qp_H q1.2 x e, (0, 0)) _
                iterate 1 refine qm_E_next rfl ?_
                obtain ⟨hb, h⟩ := qr_inb h
                refine qr_iaload hb rfl rfl rfl rfl ?_
                change qm_E _ _ _ (137, [some (vR 30 0), some (vI a1), some (vI (a1 &&& (63 : Int32))), some (vI (a1 >>> ((6 : Int32) &&& 31))), some (vI (q1.1)), none], [vI (q1.2 57 0 (((q1.2 30 0 33) - (1 : Int32))).toNatClampNeg), vI (a1 &&& (63 : Int32)), vI ((q1.2 30 0 33) - (1 : Int32)), vR 57 0], qp_H q1.2 x e, (0, 0)) _
                iterate 1 refine qm_E_next rfl ?_
                obtain ⟨q2, hq, h⟩ := qs_bd h
                refine qm_E_call rfl (qe152 (d + 0) hq) rfl ?_
                change qm_E _ _ _ (142, [some (vR 30 0), some (vI a1), some (vI (a1 &&& (63 : Int32))), some (vI (a1 >>> ((6 : Int32) &&& 31))), some (vI (q1.1)), none], [vI q2, vI ((q1.2 30 0 33) - (1 : Int32)), vR 57 0], qp_H q1.2 x e, (0, 0)) _
                obtain ⟨hb, h⟩ := qr_inb h
                refine qr_iastore hb rfl rfl rfl rfl rfl ?_
                change qm_E _ _ _ (143, [some (vR 30 0), some (vI a1), some (vI (a1 &&& (63 : Int32))), some (vI (a1 >>> ((6 : Int32) &&& 31))), some (vI (q1.1)), none], [], qp_H (qp_up q1.2 57 0 (((q1.2 30 0 33) - (1 : Int32))).toNatClampNeg q2) x e, (0, 0)) _
                iterate 1 refine qm_E_next rfl ?_
                exact qe149_224 d  h
          · refine qr_f hb rfl ?_
            change qm_E _ _ _ (90, [some (vR 30 0), some (vI a1), some (vI (a1 &&& (63 : Int32))), some (vI (a1 >>> ((6 : Int32) &&& 31))), none, none], [], qp_H (qp_up s 30 0 34 ((s 30 0 34) + (1 : Int32))) x e, (0, 0)) _
            iterate 2 refine qm_E_next rfl ?_
            refine qr_put rfl rfl ?_
            change qm_E _ _ _ (95, [some (vR 30 0), some (vI a1), some (vI (a1 &&& (63 : Int32))), some (vI (a1 >>> ((6 : Int32) &&& 31))), none, none], [], qp_H (qp_up (qp_up s 30 0 34 ((s 30 0 34) + (1 : Int32))) 30 0 34 (a1 >>> ((6 : Int32) &&& 31))) x e, (0, 0)) _
            iterate 1 refine qm_E_next rfl ?_
            cases h
            exact qr_ret rfl rfl rfl
        · refine qr_f hb rfl ?_
          exact qe149_48 d  h
  · refine qr_f hb rfl ?_
    change qm_E _ _ _ (24, [some (vR 30 0), some (vI a1), some (vI (a1 &&& (63 : Int32))), some (vI (a1 >>> ((6 : Int32) &&& 31))), none, none], [], qp_H (qp_up s 30 0 34 ((s 30 0 34) + (1 : Int32))) x e, (0, 0)) _
    iterate 2 refine qm_E_next rfl ?_
    refine qr_putz (Or.inr rfl) rfl rfl rfl rfl rfl rfl rfl rfl rfl ?_
    change qm_E _ _ _ (29, [some (vR 30 0), some (vI a1), some (vI (a1 &&& (63 : Int32))), some (vI (a1 >>> ((6 : Int32) &&& 31))), none, none], [], qp_H (qp_up (qp_up s 30 0 34 ((s 30 0 34) + (1 : Int32))) 30 0 35 (1 : Int32)) x e, (0, 0)) _
    iterate 1 refine qm_E_next rfl ?_
    cases h
    exact qr_ret rfl rfl rfl
