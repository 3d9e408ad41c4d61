/-! the law's calls: what is thrown is caught -/
/-! task -/
theorem qw22 (d : Nat) {L : Nat} {xs : Nat → Int32} {x : Int64} {e : Nat → Nat} {a1 : Int32} {a2 : Int32} {s : qp_S} {q : Int32 × qp_S} (h : qf23 a1 a2 s = some (.inr q)) : qm_E (qz_ro L xs) (d + 8) 22 (0, qm_ent 22 [vR 1 0, vI a1, vI a2], [], qp_H s x e, (0, 0)) (qf_v 0 q.2 x e) := by
  iterate 3 refine qm_E_next rfl ?_
  refine qm_E_call rfl (qe23 (d + 0) h) rfl ?_
  iterate 2 refine qm_E_next rfl ?_
  exact qr_iret (Or.inl rfl) rfl rfl
theorem qw22_70 (d : Nat) {L : Nat} {xs : Nat → Int32} {x : Int64} {e : Nat → Nat} {a1 : Int32} {a2 : Int32} {s : qp_S} (h : qf23 a1 a2 s = some (.inl 70)) : qm_E (qz_ro L xs) (d + 8) 22 (0, qm_ent 22 [vR 1 0, vI a1, vI a2], [], qp_H s x e, (0, 0)) (.inl (some (vI 1)), qp_H s x (qp_bump e 70), (1, 6)) := by
  iterate 3 refine qm_E_next rfl ?_
  refine qm_E_call rfl (qe23 (d + 0) h) rfl ?_
  iterate 2 refine qm_E_next rfl ?_
  exact qr_iret (Or.inl rfl) rfl rfl
theorem qw22_71 (d : Nat) {L : Nat} {xs : Nat → Int32} {x : Int64} {e : Nat → Nat} {a1 : Int32} {a2 : Int32} {s : qp_S} (h : qf23 a1 a2 s = some (.inl 71)) : qm_E (qz_ro L xs) (d + 8) 22 (0, qm_ent 22 [vR 1 0, vI a1, vI a2], [], qp_H s x e, (0, 0)) (.inl (some (vI 2)), qp_H s x (qp_bump e 71), (1, 6)) := by
  iterate 3 refine qm_E_next rfl ?_
  refine qm_E_call rfl (qe23 (d + 0) h) rfl ?_
  iterate 2 refine qm_E_next rfl ?_
  exact qr_iret (Or.inl rfl) rfl rfl
theorem qw22_72 (d : Nat) {L : Nat} {xs : Nat → Int32} {x : Int64} {e : Nat → Nat} {a1 : Int32} {a2 : Int32} {s : qp_S} (h : qf23 a1 a2 s = some (.inl 72)) : qm_E (qz_ro L xs) (d + 8) 22 (0, qm_ent 22 [vR 1 0, vI a1, vI a2], [], qp_H s x e, (0, 0)) (.inl (some (vI 3)), qp_H s x (qp_bump e 72), (1, 6)) := by
  iterate 3 refine qm_E_next rfl ?_
  refine qm_E_call rfl (qe23 (d + 0) h) rfl ?_
  iterate 2 refine qm_E_next rfl ?_
  exact qr_iret (Or.inl rfl) rfl rfl
/-! code -/
theorem qw27 (d : Nat) {L : Nat} {xs : Nat → Int32} {x : Int64} {e : Nat → Nat} {a1 : Int32} {a2 : Int32} {s : qp_S} {q : Int32 × qp_S} (h : qf28 a1 a2 s = some (.inr q)) : qm_E (qz_ro L xs) (d + 8) 27 (0, qm_ent 27 [vR 1 0, vI a1, vI a2, vR 61 0], [], qp_H s x e, (0, 0)) (qf_v 0 q.2 (q.1).toInt64 e) := by
  iterate 5 refine qm_E_next rfl ?_
  refine qm_E_call rfl (qe28 (d + 0) h) rfl ?_
  iterate 1 refine qm_E_next rfl ?_
  refine qr_lastore rfl rfl rfl rfl ?_
  iterate 2 refine qm_E_next rfl ?_
  exact qr_iret (Or.inl rfl) rfl rfl
theorem qw27_70 (d : Nat) {L : Nat} {xs : Nat → Int32} {x : Int64} {e : Nat → Nat} {a1 : Int32} {a2 : Int32} {s : qp_S} (h : qf28 a1 a2 s = some (.inl 70)) : qm_E (qz_ro L xs) (d + 8) 27 (0, qm_ent 27 [vR 1 0, vI a1, vI a2, vR 61 0], [], qp_H s x e, (0, 0)) (.inl (some (vI 1)), qp_H s x (qp_bump e 70), (1, 6)) := by
  iterate 5 refine qm_E_next rfl ?_
  refine qm_E_call rfl (qe28 (d + 0) h) rfl ?_
  iterate 2 refine qm_E_next rfl ?_
  exact qr_iret (Or.inl rfl) rfl rfl
theorem qw27_71 (d : Nat) {L : Nat} {xs : Nat → Int32} {x : Int64} {e : Nat → Nat} {a1 : Int32} {a2 : Int32} {s : qp_S} (h : qf28 a1 a2 s = some (.inl 71)) : qm_E (qz_ro L xs) (d + 8) 27 (0, qm_ent 27 [vR 1 0, vI a1, vI a2, vR 61 0], [], qp_H s x e, (0, 0)) (.inl (some (vI 2)), qp_H s x (qp_bump e 71), (1, 6)) := by
  iterate 5 refine qm_E_next rfl ?_
  refine qm_E_call rfl (qe28 (d + 0) h) rfl ?_
  iterate 2 refine qm_E_next rfl ?_
  exact qr_iret (Or.inl rfl) rfl rfl
theorem qw27_72 (d : Nat) {L : Nat} {xs : Nat → Int32} {x : Int64} {e : Nat → Nat} {a1 : Int32} {a2 : Int32} {s : qp_S} (h : qf28 a1 a2 s = some (.inl 72)) : qm_E (qz_ro L xs) (d + 8) 27 (0, qm_ent 27 [vR 1 0, vI a1, vI a2, vR 61 0], [], qp_H s x e, (0, 0)) (.inl (some (vI 3)), qp_H s x (qp_bump e 72), (1, 6)) := by
  iterate 5 refine qm_E_next rfl ?_
  refine qm_E_call rfl (qe28 (d + 0) h) rfl ?_
  iterate 2 refine qm_E_next rfl ?_
  exact qr_iret (Or.inl rfl) rfl rfl
/-! port -/
theorem qw30 (d : Nat) {L : Nat} {xs : Nat → Int32} {x : Int64} {e : Nat → Nat} {a1 : Int32} {a2 : Int32} {a3 : Int32} {a4 : Int32} {s : qp_S} {q : Int32 × qp_S} (h : qf31 a1 a2 a3 a4 s = some (.inr q)) : qm_E (qz_ro L xs) (d + 8) 30 (0, qm_ent 30 [vR 1 0, vI a1, vI a2, vI a3, vI a4], [], qp_H s x e, (0, 0)) (qf_v 0 q.2 x e) := by
  iterate 5 refine qm_E_next rfl ?_
  refine qm_E_call rfl (qe31 (d + 0) h) rfl ?_
  iterate 2 refine qm_E_next rfl ?_
  exact qr_iret (Or.inl rfl) rfl rfl
theorem qw30_70 (d : Nat) {L : Nat} {xs : Nat → Int32} {x : Int64} {e : Nat → Nat} {a1 : Int32} {a2 : Int32} {a3 : Int32} {a4 : Int32} {s : qp_S} (h : qf31 a1 a2 a3 a4 s = some (.inl 70)) : qm_E (qz_ro L xs) (d + 8) 30 (0, qm_ent 30 [vR 1 0, vI a1, vI a2, vI a3, vI a4], [], qp_H s x e, (0, 0)) (.inl (some (vI 1)), qp_H s x (qp_bump e 70), (1, 6)) := by
  iterate 5 refine qm_E_next rfl ?_
  refine qm_E_call rfl (qe31 (d + 0) h) rfl ?_
  iterate 2 refine qm_E_next rfl ?_
  exact qr_iret (Or.inl rfl) rfl rfl
theorem qw30_71 (d : Nat) {L : Nat} {xs : Nat → Int32} {x : Int64} {e : Nat → Nat} {a1 : Int32} {a2 : Int32} {a3 : Int32} {a4 : Int32} {s : qp_S} (h : qf31 a1 a2 a3 a4 s = some (.inl 71)) : qm_E (qz_ro L xs) (d + 8) 30 (0, qm_ent 30 [vR 1 0, vI a1, vI a2, vI a3, vI a4], [], qp_H s x e, (0, 0)) (.inl (some (vI 2)), qp_H s x (qp_bump e 71), (1, 6)) := by
  iterate 5 refine qm_E_next rfl ?_
  refine qm_E_call rfl (qe31 (d + 0) h) rfl ?_
  iterate 2 refine qm_E_next rfl ?_
  exact qr_iret (Or.inl rfl) rfl rfl
theorem qw30_72 (d : Nat) {L : Nat} {xs : Nat → Int32} {x : Int64} {e : Nat → Nat} {a1 : Int32} {a2 : Int32} {a3 : Int32} {a4 : Int32} {s : qp_S} (h : qf31 a1 a2 a3 a4 s = some (.inl 72)) : qm_E (qz_ro L xs) (d + 8) 30 (0, qm_ent 30 [vR 1 0, vI a1, vI a2, vI a3, vI a4], [], qp_H s x e, (0, 0)) (.inl (some (vI 3)), qp_H s x (qp_bump e 72), (1, 6)) := by
  iterate 5 refine qm_E_next rfl ?_
  refine qm_E_call rfl (qe31 (d + 0) h) rfl ?_
  iterate 2 refine qm_E_next rfl ?_
  exact qr_iret (Or.inl rfl) rfl rfl
/-! wire -/
theorem qw32 (d : Nat) {L : Nat} {xs : Nat → Int32} {x : Int64} {e : Nat → Nat} {a1 : Int32} {a2 : Int32} {a3 : Int32} {a4 : Int32} {s : qp_S} {q : Int32 × qp_S} (h : qf33 a1 a2 a3 a4 s = some (.inr q)) : qm_E (qz_ro L xs) (d + 8) 32 (0, qm_ent 32 [vR 1 0, vI a1, vI a2, vI a3, vI a4], [], qp_H s x e, (0, 0)) (qf_v 0 q.2 x e) := by
  iterate 5 refine qm_E_next rfl ?_
  refine qm_E_call rfl (qe33 (d + 0) h) rfl ?_
  iterate 2 refine qm_E_next rfl ?_
  exact qr_iret (Or.inl rfl) rfl rfl
theorem qw32_70 (d : Nat) {L : Nat} {xs : Nat → Int32} {x : Int64} {e : Nat → Nat} {a1 : Int32} {a2 : Int32} {a3 : Int32} {a4 : Int32} {s : qp_S} (h : qf33 a1 a2 a3 a4 s = some (.inl 70)) : qm_E (qz_ro L xs) (d + 8) 32 (0, qm_ent 32 [vR 1 0, vI a1, vI a2, vI a3, vI a4], [], qp_H s x e, (0, 0)) (.inl (some (vI 1)), qp_H s x (qp_bump e 70), (1, 6)) := by
  iterate 5 refine qm_E_next rfl ?_
  refine qm_E_call rfl (qe33 (d + 0) h) rfl ?_
  iterate 2 refine qm_E_next rfl ?_
  exact qr_iret (Or.inl rfl) rfl rfl
theorem qw32_71 (d : Nat) {L : Nat} {xs : Nat → Int32} {x : Int64} {e : Nat → Nat} {a1 : Int32} {a2 : Int32} {a3 : Int32} {a4 : Int32} {s : qp_S} (h : qf33 a1 a2 a3 a4 s = some (.inl 71)) : qm_E (qz_ro L xs) (d + 8) 32 (0, qm_ent 32 [vR 1 0, vI a1, vI a2, vI a3, vI a4], [], qp_H s x e, (0, 0)) (.inl (some (vI 2)), qp_H s x (qp_bump e 71), (1, 6)) := by
  iterate 5 refine qm_E_next rfl ?_
  refine qm_E_call rfl (qe33 (d + 0) h) rfl ?_
  iterate 2 refine qm_E_next rfl ?_
  exact qr_iret (Or.inl rfl) rfl rfl
theorem qw32_72 (d : Nat) {L : Nat} {xs : Nat → Int32} {x : Int64} {e : Nat → Nat} {a1 : Int32} {a2 : Int32} {a3 : Int32} {a4 : Int32} {s : qp_S} (h : qf33 a1 a2 a3 a4 s = some (.inl 72)) : qm_E (qz_ro L xs) (d + 8) 32 (0, qm_ent 32 [vR 1 0, vI a1, vI a2, vI a3, vI a4], [], qp_H s x e, (0, 0)) (.inl (some (vI 3)), qp_H s x (qp_bump e 72), (1, 6)) := by
  iterate 5 refine qm_E_next rfl ?_
  refine qm_E_call rfl (qe33 (d + 0) h) rfl ?_
  iterate 2 refine qm_E_next rfl ?_
  exact qr_iret (Or.inl rfl) rfl rfl
/-! mode -/
theorem qw35 (d : Nat) {L : Nat} {xs : Nat → Int32} {x : Int64} {e : Nat → Nat} {a1 : Int32} {a2 : Int32} {s : qp_S} {q : Int32 × qp_S} (h : qf36 a1 a2 s = some (.inr q)) : qm_E (qz_ro L xs) (d + 8) 35 (0, qm_ent 35 [vR 1 0, vI a1, vI a2], [], qp_H s x e, (0, 0)) (qf_v 0 q.2 x e) := by
  iterate 3 refine qm_E_next rfl ?_
  refine qm_E_call rfl (qe36 (d + 0) h) rfl ?_
  iterate 2 refine qm_E_next rfl ?_
  exact qr_iret (Or.inl rfl) rfl rfl
theorem qw35_70 (d : Nat) {L : Nat} {xs : Nat → Int32} {x : Int64} {e : Nat → Nat} {a1 : Int32} {a2 : Int32} {s : qp_S} (h : qf36 a1 a2 s = some (.inl 70)) : qm_E (qz_ro L xs) (d + 8) 35 (0, qm_ent 35 [vR 1 0, vI a1, vI a2], [], qp_H s x e, (0, 0)) (.inl (some (vI 1)), qp_H s x (qp_bump e 70), (1, 6)) := by
  iterate 3 refine qm_E_next rfl ?_
  refine qm_E_call rfl (qe36 (d + 0) h) rfl ?_
  iterate 2 refine qm_E_next rfl ?_
  exact qr_iret (Or.inl rfl) rfl rfl
theorem qw35_71 (d : Nat) {L : Nat} {xs : Nat → Int32} {x : Int64} {e : Nat → Nat} {a1 : Int32} {a2 : Int32} {s : qp_S} (h : qf36 a1 a2 s = some (.inl 71)) : qm_E (qz_ro L xs) (d + 8) 35 (0, qm_ent 35 [vR 1 0, vI a1, vI a2], [], qp_H s x e, (0, 0)) (.inl (some (vI 2)), qp_H s x (qp_bump e 71), (1, 6)) := by
  iterate 3 refine qm_E_next rfl ?_
  refine qm_E_call rfl (qe36 (d + 0) h) rfl ?_
  iterate 2 refine qm_E_next rfl ?_
  exact qr_iret (Or.inl rfl) rfl rfl
theorem qw35_72 (d : Nat) {L : Nat} {xs : Nat → Int32} {x : Int64} {e : Nat → Nat} {a1 : Int32} {a2 : Int32} {s : qp_S} (h : qf36 a1 a2 s = some (.inl 72)) : qm_E (qz_ro L xs) (d + 8) 35 (0, qm_ent 35 [vR 1 0, vI a1, vI a2], [], qp_H s x e, (0, 0)) (.inl (some (vI 3)), qp_H s x (qp_bump e 72), (1, 6)) := by
  iterate 3 refine qm_E_next rfl ?_
  refine qm_E_call rfl (qe36 (d + 0) h) rfl ?_
  iterate 2 refine qm_E_next rfl ?_
  exact qr_iret (Or.inl rfl) rfl rfl
/-! use -/
theorem qw37 (d : Nat) {L : Nat} {xs : Nat → Int32} {x : Int64} {e : Nat → Nat} {a1 : Int32} {a2 : Int32} {a3 : Int32} {s : qp_S} {q : Int32 × qp_S} (h : qf38 a1 a2 a3 s = some (.inr q)) : qm_E (qz_ro L xs) (d + 8) 37 (0, qm_ent 37 [vR 1 0, vI a1, vI a2, vI a3], [], qp_H s x e, (0, 0)) (qf_v 0 q.2 x e) := by
  iterate 4 refine qm_E_next rfl ?_
  refine qm_E_call rfl (qe38 (d + 0) h) rfl ?_
  iterate 2 refine qm_E_next rfl ?_
  exact qr_iret (Or.inl rfl) rfl rfl
theorem qw37_70 (d : Nat) {L : Nat} {xs : Nat → Int32} {x : Int64} {e : Nat → Nat} {a1 : Int32} {a2 : Int32} {a3 : Int32} {s : qp_S} (h : qf38 a1 a2 a3 s = some (.inl 70)) : qm_E (qz_ro L xs) (d + 8) 37 (0, qm_ent 37 [vR 1 0, vI a1, vI a2, vI a3], [], qp_H s x e, (0, 0)) (.inl (some (vI 1)), qp_H s x (qp_bump e 70), (1, 6)) := by
  iterate 4 refine qm_E_next rfl ?_
  refine qm_E_call rfl (qe38 (d + 0) h) rfl ?_
  iterate 2 refine qm_E_next rfl ?_
  exact qr_iret (Or.inl rfl) rfl rfl
theorem qw37_71 (d : Nat) {L : Nat} {xs : Nat → Int32} {x : Int64} {e : Nat → Nat} {a1 : Int32} {a2 : Int32} {a3 : Int32} {s : qp_S} (h : qf38 a1 a2 a3 s = some (.inl 71)) : qm_E (qz_ro L xs) (d + 8) 37 (0, qm_ent 37 [vR 1 0, vI a1, vI a2, vI a3], [], qp_H s x e, (0, 0)) (.inl (some (vI 2)), qp_H s x (qp_bump e 71), (1, 6)) := by
  iterate 4 refine qm_E_next rfl ?_
  refine qm_E_call rfl (qe38 (d + 0) h) rfl ?_
  iterate 2 refine qm_E_next rfl ?_
  exact qr_iret (Or.inl rfl) rfl rfl
theorem qw37_72 (d : Nat) {L : Nat} {xs : Nat → Int32} {x : Int64} {e : Nat → Nat} {a1 : Int32} {a2 : Int32} {a3 : Int32} {s : qp_S} (h : qf38 a1 a2 a3 s = some (.inl 72)) : qm_E (qz_ro L xs) (d + 8) 37 (0, qm_ent 37 [vR 1 0, vI a1, vI a2, vI a3], [], qp_H s x e, (0, 0)) (.inl (some (vI 3)), qp_H s x (qp_bump e 72), (1, 6)) := by
  iterate 4 refine qm_E_next rfl ?_
  refine qm_E_call rfl (qe38 (d + 0) h) rfl ?_
  iterate 2 refine qm_E_next rfl ?_
  exact qr_iret (Or.inl rfl) rfl rfl
/-! guard -/
theorem qw39 (d : Nat) {L : Nat} {xs : Nat → Int32} {x : Int64} {e : Nat → Nat} {a1 : Int32} {a2 : Int32} {a3 : Int32} {a4 : Int32} {a5 : Int32} {s : qp_S} {q : Int32 × qp_S} (h : qf40 a1 a2 a3 a4 a5 s = some (.inr q)) : qm_E (qz_ro L xs) (d + 8) 39 (0, qm_ent 39 [vR 1 0, vI a1, vI a2, vI a3, vI a4, vI a5, vR 61 0], [], qp_H s x e, (0, 0)) (qf_v 0 q.2 (q.1).toInt64 e) := by
  iterate 8 refine qm_E_next rfl ?_
  refine qm_E_call rfl (qe40 (d + 0) h) rfl ?_
  iterate 1 refine qm_E_next rfl ?_
  refine qr_lastore rfl rfl rfl rfl ?_
  iterate 2 refine qm_E_next rfl ?_
  exact qr_iret (Or.inl rfl) rfl rfl
theorem qw39_70 (d : Nat) {L : Nat} {xs : Nat → Int32} {x : Int64} {e : Nat → Nat} {a1 : Int32} {a2 : Int32} {a3 : Int32} {a4 : Int32} {a5 : Int32} {s : qp_S} (h : qf40 a1 a2 a3 a4 a5 s = some (.inl 70)) : qm_E (qz_ro L xs) (d + 8) 39 (0, qm_ent 39 [vR 1 0, vI a1, vI a2, vI a3, vI a4, vI a5, vR 61 0], [], qp_H s x e, (0, 0)) (.inl (some (vI 1)), qp_H s x (qp_bump e 70), (1, 6)) := by
  iterate 8 refine qm_E_next rfl ?_
  refine qm_E_call rfl (qe40 (d + 0) h) rfl ?_
  iterate 2 refine qm_E_next rfl ?_
  exact qr_iret (Or.inl rfl) rfl rfl
theorem qw39_71 (d : Nat) {L : Nat} {xs : Nat → Int32} {x : Int64} {e : Nat → Nat} {a1 : Int32} {a2 : Int32} {a3 : Int32} {a4 : Int32} {a5 : Int32} {s : qp_S} (h : qf40 a1 a2 a3 a4 a5 s = some (.inl 71)) : qm_E (qz_ro L xs) (d + 8) 39 (0, qm_ent 39 [vR 1 0, vI a1, vI a2, vI a3, vI a4, vI a5, vR 61 0], [], qp_H s x e, (0, 0)) (.inl (some (vI 2)), qp_H s x (qp_bump e 71), (1, 6)) := by
  iterate 8 refine qm_E_next rfl ?_
  refine qm_E_call rfl (qe40 (d + 0) h) rfl ?_
  iterate 2 refine qm_E_next rfl ?_
  exact qr_iret (Or.inl rfl) rfl rfl
theorem qw39_72 (d : Nat) {L : Nat} {xs : Nat → Int32} {x : Int64} {e : Nat → Nat} {a1 : Int32} {a2 : Int32} {a3 : Int32} {a4 : Int32} {a5 : Int32} {s : qp_S} (h : qf40 a1 a2 a3 a4 a5 s = some (.inl 72)) : qm_E (qz_ro L xs) (d + 8) 39 (0, qm_ent 39 [vR 1 0, vI a1, vI a2, vI a3, vI a4, vI a5, vR 61 0], [], qp_H s x e, (0, 0)) (.inl (some (vI 3)), qp_H s x (qp_bump e 72), (1, 6)) := by
  iterate 8 refine qm_E_next rfl ?_
  refine qm_E_call rfl (qe40 (d + 0) h) rfl ?_
  iterate 2 refine qm_E_next rfl ?_
  exact qr_iret (Or.inl rfl) rfl rfl
/-! sense -/
theorem qw43 (d : Nat) {L : Nat} {xs : Nat → Int32} {x : Int64} {e : Nat → Nat} {a1 : Int32} {a2 : Int32} {s : qp_S} {q : Int32 × qp_S} (h : qf44 a1 a2 s = some (.inr q)) : qm_E (qz_ro L xs) (d + 9) 43 (0, qm_ent 43 [vR 1 0, vI a1, vI a2], [], qp_H s x e, (0, 0)) (qf_v 0 q.2 x e) := by
  iterate 3 refine qm_E_next rfl ?_
  refine qm_E_call rfl (qe44 (d + 0) h) rfl ?_
  iterate 2 refine qm_E_next rfl ?_
  exact qr_iret (Or.inl rfl) rfl rfl
theorem qw43_70 (d : Nat) {L : Nat} {xs : Nat → Int32} {x : Int64} {e : Nat → Nat} {a1 : Int32} {a2 : Int32} {s : qp_S} (h : qf44 a1 a2 s = some (.inl 70)) : qm_E (qz_ro L xs) (d + 9) 43 (0, qm_ent 43 [vR 1 0, vI a1, vI a2], [], qp_H s x e, (0, 0)) (.inl (some (vI 1)), qp_H s x (qp_bump e 70), (1, 6)) := by
  iterate 3 refine qm_E_next rfl ?_
  refine qm_E_call rfl (qe44 (d + 0) h) rfl ?_
  iterate 2 refine qm_E_next rfl ?_
  exact qr_iret (Or.inl rfl) rfl rfl
theorem qw43_72 (d : Nat) {L : Nat} {xs : Nat → Int32} {x : Int64} {e : Nat → Nat} {a1 : Int32} {a2 : Int32} {s : qp_S} (h : qf44 a1 a2 s = some (.inl 72)) : qm_E (qz_ro L xs) (d + 9) 43 (0, qm_ent 43 [vR 1 0, vI a1, vI a2], [], qp_H s x e, (0, 0)) (.inl (some (vI 2)), qp_H s x (qp_bump e 72), (1, 6)) := by
  iterate 3 refine qm_E_next rfl ?_
  refine qm_E_call rfl (qe44 (d + 0) h) rfl ?_
  iterate 2 refine qm_E_next rfl ?_
  exact qr_iret (Or.inl rfl) rfl rfl
/-! actuate -/
theorem qw46 (d : Nat) {L : Nat} {xs : Nat → Int32} {x : Int64} {e : Nat → Nat} {a1 : Int32} {a2 : Int32} {s : qp_S} {q : Int32 × qp_S} (h : qf47 a1 a2 s = some (.inr q)) : qm_E (qz_ro L xs) (d + 9) 46 (0, qm_ent 46 [vR 1 0, vI a1, vI a2], [], qp_H s x e, (0, 0)) (qf_v 0 q.2 x e) := by
  iterate 3 refine qm_E_next rfl ?_
  refine qm_E_call rfl (qe47 (d + 0) h) rfl ?_
  iterate 2 refine qm_E_next rfl ?_
  exact qr_iret (Or.inl rfl) rfl rfl
theorem qw46_70 (d : Nat) {L : Nat} {xs : Nat → Int32} {x : Int64} {e : Nat → Nat} {a1 : Int32} {a2 : Int32} {s : qp_S} (h : qf47 a1 a2 s = some (.inl 70)) : qm_E (qz_ro L xs) (d + 9) 46 (0, qm_ent 46 [vR 1 0, vI a1, vI a2], [], qp_H s x e, (0, 0)) (.inl (some (vI 1)), qp_H s x (qp_bump e 70), (1, 6)) := by
  iterate 3 refine qm_E_next rfl ?_
  refine qm_E_call rfl (qe47 (d + 0) h) rfl ?_
  iterate 2 refine qm_E_next rfl ?_
  exact qr_iret (Or.inl rfl) rfl rfl
theorem qw46_72 (d : Nat) {L : Nat} {xs : Nat → Int32} {x : Int64} {e : Nat → Nat} {a1 : Int32} {a2 : Int32} {s : qp_S} (h : qf47 a1 a2 s = some (.inl 72)) : qm_E (qz_ro L xs) (d + 9) 46 (0, qm_ent 46 [vR 1 0, vI a1, vI a2], [], qp_H s x e, (0, 0)) (.inl (some (vI 2)), qp_H s x (qp_bump e 72), (1, 6)) := by
  iterate 3 refine qm_E_next rfl ?_
  refine qm_E_call rfl (qe47 (d + 0) h) rfl ?_
  iterate 2 refine qm_E_next rfl ?_
  exact qr_iret (Or.inl rfl) rfl rfl
/-! start -/
theorem qw48 (d : Nat) {L : Nat} {xs : Nat → Int32} {x : Int64} {e : Nat → Nat}  {s : qp_S} {q : Int32 × qp_S} (h : qf49  s = some (.inr q)) : qm_E (qz_ro L xs) (d + 8) 48 (0, qm_ent 48 [vR 1 0, vR 61 0], [], qp_H s x e, (0, 0)) (qf_v 0 q.2 (q.1).toInt64 e) := by
  iterate 3 refine qm_E_next rfl ?_
  refine qm_E_call rfl (qe49 (d + 0) h) rfl ?_
  iterate 1 refine qm_E_next rfl ?_
  refine qr_lastore rfl rfl rfl rfl ?_
  iterate 2 refine qm_E_next rfl ?_
  exact qr_iret (Or.inl rfl) rfl rfl
theorem qw48_72 (d : Nat) {L : Nat} {xs : Nat → Int32} {x : Int64} {e : Nat → Nat}  {s : qp_S} (h : qf49  s = some (.inl 72)) : qm_E (qz_ro L xs) (d + 8) 48 (0, qm_ent 48 [vR 1 0, vR 61 0], [], qp_H s x e, (0, 0)) (.inl (some (vI 1)), qp_H s x (qp_bump e 72), (1, 6)) := by
  iterate 3 refine qm_E_next rfl ?_
  refine qm_E_call rfl (qe49 (d + 0) h) rfl ?_
  iterate 2 refine qm_E_next rfl ?_
  exact qr_iret (Or.inl rfl) rfl rfl
/-! sensor -/
theorem qw91 (d : Nat) {L : Nat} {xs : Nat → Int32} {x : Int64} {e : Nat → Nat} {a1 : Int32} {a2 : Int32} {s : qp_S} {q : Int32 × qp_S} (h : qf92 a1 a2 s = some (.inr q)) : qm_E (qz_ro L xs) (d + 8) 91 (0, qm_ent 91 [vR 1 0, vI a1, vI a2], [], qp_H s x e, (0, 0)) (qf_v 0 q.2 x e) := by
  iterate 3 refine qm_E_next rfl ?_
  refine qm_E_call rfl (qe92 (d + 0) h) rfl ?_
  iterate 2 refine qm_E_next rfl ?_
  exact qr_iret (Or.inl rfl) rfl rfl
theorem qw91_70 (d : Nat) {L : Nat} {xs : Nat → Int32} {x : Int64} {e : Nat → Nat} {a1 : Int32} {a2 : Int32} {s : qp_S} (h : qf92 a1 a2 s = some (.inl 70)) : qm_E (qz_ro L xs) (d + 8) 91 (0, qm_ent 91 [vR 1 0, vI a1, vI a2], [], qp_H s x e, (0, 0)) (.inl (some (vI 1)), qp_H s x (qp_bump e 70), (1, 6)) := by
  iterate 3 refine qm_E_next rfl ?_
  refine qm_E_call rfl (qe92 (d + 0) h) rfl ?_
  iterate 2 refine qm_E_next rfl ?_
  exact qr_iret (Or.inl rfl) rfl rfl
/-! pick -/
theorem qw93 (d : Nat) {L : Nat} {xs : Nat → Int32} {x : Int64} {e : Nat → Nat} {a1 : Int32} {s : qp_S} {q : Int32 × qp_S} (h : qf94 a1 s = some (.inr q)) : qm_E (qz_ro L xs) (d + 8) 93 (0, qm_ent 93 [vR 1 0, vI a1, vR 61 0], [], qp_H s x e, (0, 0)) (qf_v 0 q.2 (bif qm_cmp .eq q.1 0 then 0 else 1) e) := by
  iterate 4 refine qm_E_next rfl ?_
  refine qm_E_call rfl (qe94 (d + 0) h) rfl ?_
  cases hb : qm_cmp .eq (q.1) 0 with
  | true =>
    refine qr_t hb rfl ?_
    iterate 1 refine qm_E_next rfl ?_
    refine qr_lastore rfl rfl rfl rfl ?_
    iterate 2 refine qm_E_next rfl ?_
    exact qr_iret (Or.inl rfl) rfl rfl
  | false =>
    refine qr_f hb rfl ?_
    iterate 2 refine qm_E_next rfl ?_
    refine qr_lastore rfl rfl rfl rfl ?_
    iterate 2 refine qm_E_next rfl ?_
    exact qr_iret (Or.inl rfl) rfl rfl
theorem qw93_70 (d : Nat) {L : Nat} {xs : Nat → Int32} {x : Int64} {e : Nat → Nat} {a1 : Int32} {s : qp_S} (h : qf94 a1 s = some (.inl 70)) : qm_E (qz_ro L xs) (d + 8) 93 (0, qm_ent 93 [vR 1 0, vI a1, vR 61 0], [], qp_H s x e, (0, 0)) (.inl (some (vI 1)), qp_H s x (qp_bump e 70), (1, 6)) := by
  iterate 4 refine qm_E_next rfl ?_
  refine qm_E_call rfl (qe94 (d + 0) h) rfl ?_
  iterate 2 refine qm_E_next rfl ?_
  exact qr_iret (Or.inl rfl) rfl rfl
/-! step -/
theorem qw104 (d : Nat) {L : Nat} {xs : Nat → Int32} {x : Int64} {e : Nat → Nat} {a1 : Int32} {s : qp_S} {q : Int32 × qp_S} (h : qf105 a1 s = some (.inr q)) : qm_E (qz_ro L xs) (d + 8) 104 (0, qm_ent 104 [vR 1 0, vI a1, vR 61 0], [], qp_H s x e, (0, 0)) (qf_v 0 q.2 (q.1).toInt64 e) := by
  iterate 4 refine qm_E_next rfl ?_
  refine qm_E_call rfl (qe105 (d + 0) h) rfl ?_
  iterate 1 refine qm_E_next rfl ?_
  refine qr_lastore rfl rfl rfl rfl ?_
  iterate 2 refine qm_E_next rfl ?_
  exact qr_iret (Or.inl rfl) rfl rfl
theorem qw104_71 (d : Nat) {L : Nat} {xs : Nat → Int32} {x : Int64} {e : Nat → Nat} {a1 : Int32} {s : qp_S} (h : qf105 a1 s = some (.inl 71)) : qm_E (qz_ro L xs) (d + 8) 104 (0, qm_ent 104 [vR 1 0, vI a1, vR 61 0], [], qp_H s x e, (0, 0)) (.inl (some (vI 1)), qp_H s x (qp_bump e 71), (1, 6)) := by
  iterate 4 refine qm_E_next rfl ?_
  refine qm_E_call rfl (qe105 (d + 0) h) rfl ?_
  iterate 2 refine qm_E_next rfl ?_
  exact qr_iret (Or.inl rfl) rfl rfl
theorem qw104_72 (d : Nat) {L : Nat} {xs : Nat → Int32} {x : Int64} {e : Nat → Nat} {a1 : Int32} {s : qp_S} (h : qf105 a1 s = some (.inl 72)) : qm_E (qz_ro L xs) (d + 8) 104 (0, qm_ent 104 [vR 1 0, vI a1, vR 61 0], [], qp_H s x e, (0, 0)) (.inl (some (vI 2)), qp_H s x (qp_bump e 72), (1, 6)) := by
  iterate 4 refine qm_E_next rfl ?_
  refine qm_E_call rfl (qe105 (d + 0) h) rfl ?_
  iterate 2 refine qm_E_next rfl ?_
  exact qr_iret (Or.inl rfl) rfl rfl
/-! advance -/
theorem qw108 (d : Nat) {L : Nat} {xs : Nat → Int32} {x : Int64} {e : Nat → Nat}  {s : qp_S} {q : Int32 × qp_S} (h : qf109  s = some (.inr q)) : qm_E (qz_ro L xs) (d + 8) 108 (0, qm_ent 108 [vR 1 0, vR 61 0], [], qp_H s x e, (0, 0)) (qf_v 0 q.2 (q.1).toInt64 e) := by
  iterate 3 refine qm_E_next rfl ?_
  refine qm_E_call rfl (qe109 (d + 0) h) rfl ?_
  iterate 1 refine qm_E_next rfl ?_
  refine qr_lastore rfl rfl rfl rfl ?_
  iterate 2 refine qm_E_next rfl ?_
  exact qr_iret (Or.inl rfl) rfl rfl
theorem qw108_72 (d : Nat) {L : Nat} {xs : Nat → Int32} {x : Int64} {e : Nat → Nat}  {s : qp_S} (h : qf109  s = some (.inl 72)) : qm_E (qz_ro L xs) (d + 8) 108 (0, qm_ent 108 [vR 1 0, vR 61 0], [], qp_H s x e, (0, 0)) (.inl (some (vI 1)), qp_H s x (qp_bump e 72), (1, 6)) := by
  iterate 3 refine qm_E_next rfl ?_
  refine qm_E_call rfl (qe109 (d + 0) h) rfl ?_
  iterate 2 refine qm_E_next rfl ?_
  exact qr_iret (Or.inl rfl) rfl rfl
/-! value -/
theorem qw111 (d : Nat) {L : Nat} {xs : Nat → Int32} {x : Int64} {e : Nat → Nat} {a1 : Int32} {s : qp_S} {q : Int32} (h : qf112 a1 s = some (.inr q)) : qm_E (qz_ro L xs) (d + 8) 111 (0, qm_ent 111 [vR 1 0, vI a1, vR 61 0], [], qp_H s x e, (0, 0)) (qf_v 0 s (q).toInt64 e) := by
  iterate 4 refine qm_E_next rfl ?_
  refine qm_E_call rfl (qe112 (d + 0) h) rfl ?_
  iterate 1 refine qm_E_next rfl ?_
  refine qr_lastore rfl rfl rfl rfl ?_
  iterate 2 refine qm_E_next rfl ?_
  exact qr_iret (Or.inl rfl) rfl rfl
theorem qw111_70 (d : Nat) {L : Nat} {xs : Nat → Int32} {x : Int64} {e : Nat → Nat} {a1 : Int32} {s : qp_S} (h : qf112 a1 s = some (.inl 70)) : qm_E (qz_ro L xs) (d + 8) 111 (0, qm_ent 111 [vR 1 0, vI a1, vR 61 0], [], qp_H s x e, (0, 0)) (.inl (some (vI 1)), qp_H s x (qp_bump e 70), (1, 6)) := by
  iterate 4 refine qm_E_next rfl ?_
  refine qm_E_call rfl (qe112 (d + 0) h) rfl ?_
  iterate 2 refine qm_E_next rfl ?_
  exact qr_iret (Or.inl rfl) rfl rfl
