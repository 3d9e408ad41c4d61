/-! one turn of the law's loop -/
theorem ql_eq (v : Int32) : qm_cmp .eq v v = true := decide_eq_true rfl
theorem ql_lc (v : Int64) : qm_cmp .eq (lg_cmp v v) 0 = true := by
  unfold lg_cmp
  simp [qm_cmp]
def ql_L (i : Int32) (u5 u6 : Option qm_V) : qm_L := [some (vR 62 0), some (vR 1 0), some (vR 30 0), some (vR 61 0), some (vI i), u5, u6]

theorem ql0 {L : Nat} {xs : Nat → Int32} {x : Int64} {e : Nat → Nat} {s : qp_S} {c1 c2 : Nat} {r : qm_R} {i : Int32} {u5 u6 : Option qm_V} {s' s2 : qp_S} {x' : Int64} {e' : Nat → Nat} {n : Nat} {v b : Int32} (hg : qm_cmp .gt i (Int32.ofNat L - 6) = false) (h0 : qm_inb i L = true) (hsw : decide ((xs i.toNatClampNeg &&& 31) = 0) = true) (h1 : qm_inb (i + 1) L = true) (h2 : qm_inb (i + 2) L = true) (hw : qm_E (qz_ro L xs) 11 22 (0, qm_ent 22 [vR 1 0, vI (xs (i + 1).toNatClampNeg), vI (xs (i + 2).toNatClampNeg)], [], qp_H s x e, (0, 0)) (.inl (some (vI v)), qp_H s' x' e', (n, 6 * n))) (hz : qf115 (xs (i + 1).toNatClampNeg) (xs (i + 2).toNatClampNeg) s' = some (b, s2)) (ht : s2 30 0 0 = v) (kk : ∀ u5 u6, qm_E (qz_ro L xs) 12 169 (23, ql_L (i + 6) u5 u6, [], qp_H s2 x' e', (c1 + n, c2 + 6 * n)) r) : qm_E (qz_ro L xs) 12 169 (23, ql_L i u5 u6, [], qp_H s x e, (c1, c2)) r := by
  iterate 5 refine qm_E_next rfl ?_
  refine qr_f hg rfl ?_
  iterate 2 refine qm_E_next rfl ?_
  refine qr_roload h0 rfl rfl rfl ?_
  iterate 2 refine qm_E_next rfl ?_
  refine qr_tsv hsw rfl ?_
  change qm_E _ _ _ (132, ql_L i u5 u6, [], qp_H s x e, (c1, c2)) _
  iterate 5 refine qm_E_next rfl ?_
  refine qr_roload h1 rfl rfl rfl ?_
  iterate 4 refine qm_E_next rfl ?_
  refine qr_roload h2 rfl rfl rfl ?_
  refine qm_E_call rfl hw rfl ?_
  change qm_E _ _ _ (148, ql_L i u5 u6, [vI v], qp_H s' x' e', (c1 + n, c2 + 6 * n)) _
  iterate 6 refine qm_E_next rfl ?_
  refine qr_roload h1 rfl rfl rfl ?_
  iterate 4 refine qm_E_next rfl ?_
  refine qr_roload h2 rfl rfl rfl ?_
  refine qm_E_call rfl (qe115 10 hz) rfl ?_
  change qm_E _ _ _ (166, ql_L i (some (vI v)) u6, [], qp_H s2 x' e', (c1 + n, c2 + 6 * n)) _
  iterate 1 refine qm_E_next rfl ?_
  refine qm_E_call rfl (qe114 11 (congrArg some ht)) rfl ?_
  change qm_E _ _ _ (170, ql_L i (some (vI v)) u6, [vI v], qp_H s2 x' e', (c1 + n, c2 + 6 * n)) _
  iterate 1 refine qm_E_next rfl ?_
  refine qr_t (ql_eq _) rfl ?_
  change qm_E _ _ _ (177, ql_L i (some (vI v)) u6, [], qp_H s2 x' e', (c1 + n, c2 + 6 * n)) _
  iterate 1 refine qm_E_next rfl ?_
  iterate 2 refine qm_E_next rfl ?_
  exact kk _ _
theorem ql1 {L : Nat} {xs : Nat → Int32} {x : Int64} {e : Nat → Nat} {s : qp_S} {c1 c2 : Nat} {r : qm_R} {i : Int32} {u5 u6 : Option qm_V} {s' s2 : qp_S} {x' : Int64} {e' : Nat → Nat} {n : Nat} {v b : Int32} (hg : qm_cmp .gt i (Int32.ofNat L - 6) = false) (h0 : qm_inb i L = true) (hsw : decide ((xs i.toNatClampNeg &&& 31) = 1) = true) (h1 : qm_inb (i + 1) L = true) (h2 : qm_inb (i + 2) L = true) (hw : qm_E (qz_ro L xs) 11 27 (0, qm_ent 27 [vR 1 0, vI (xs (i + 1).toNatClampNeg), vI (xs (i + 2).toNatClampNeg), vR 61 0], [], qp_H s x e, (0, 0)) (.inl (some (vI v)), qp_H s' x' e', (n, 6 * n))) (hz : qf118 (xs (i + 1).toNatClampNeg) (xs (i + 2).toNatClampNeg) s' = some (b, s2)) (ht : s2 30 0 0 = v) (hr : v = 0 → x' = b.toInt64) (kk : ∀ u5 u6, qm_E (qz_ro L xs) 12 169 (23, ql_L (i + 6) u5 u6, [], qp_H s2 x' e', (c1 + n, c2 + 6 * n)) r) : qm_E (qz_ro L xs) 12 169 (23, ql_L i u5 u6, [], qp_H s x e, (c1, c2)) r := by
  iterate 5 refine qm_E_next rfl ?_
  refine qr_f hg rfl ?_
  iterate 2 refine qm_E_next rfl ?_
  refine qr_roload h0 rfl rfl rfl ?_
  iterate 2 refine qm_E_next rfl ?_
  refine qr_tsv hsw rfl ?_
  change qm_E _ _ _ (180, ql_L i u5 u6, [], qp_H s x e, (c1, c2)) _
  iterate 5 refine qm_E_next rfl ?_
  refine qr_roload h1 rfl rfl rfl ?_
  iterate 4 refine qm_E_next rfl ?_
  refine qr_roload h2 rfl rfl rfl ?_
  iterate 1 refine qm_E_next rfl ?_
  refine qm_E_call rfl hw rfl ?_
  change qm_E _ _ _ (197, ql_L i u5 u6, [vI v], qp_H s' x' e', (c1 + n, c2 + 6 * n)) _
  iterate 6 refine qm_E_next rfl ?_
  refine qr_roload h1 rfl rfl rfl ?_
  iterate 4 refine qm_E_next rfl ?_
  refine qr_roload h2 rfl rfl rfl ?_
  refine qm_E_call rfl (qe118 10 hz) rfl ?_
  change qm_E _ _ _ (215, ql_L i (some (vI v)) u6, [vI b], qp_H s2 x' e', (c1 + n, c2 + 6 * n)) _
  iterate 2 refine qm_E_next rfl ?_
  refine qm_E_call rfl (qe114 11 (congrArg some ht)) rfl ?_
  change qm_E _ _ _ (221, ql_L i (some (vI v)) (some (vI b)), [vI v], qp_H s2 x' e', (c1 + n, c2 + 6 * n)) _
  iterate 1 refine qm_E_next rfl ?_
  refine qr_t (ql_eq _) rfl ?_
  change qm_E _ _ _ (228, ql_L i (some (vI v)) (some (vI b)), [], qp_H s2 x' e', (c1 + n, c2 + 6 * n)) _
  iterate 1 refine qm_E_next rfl ?_
  cases hv : qm_cmp .ne v 0 with
  | true =>
    refine qr_t hv rfl ?_
    iterate 3 refine qm_E_next rfl ?_
    exact kk _ _
  | false =>
    refine qr_f hv rfl ?_
    have hl : qm_cmp .eq (lg_cmp x' b.toInt64) 0 = true := by rw [hr (Classical.not_not.mp (of_decide_eq_false hv))]; exact ql_lc _
    iterate 6 refine qm_E_next rfl ?_
    refine qr_t hl rfl ?_
    iterate 3 refine qm_E_next rfl ?_
    exact kk _ _
theorem ql2 {L : Nat} {xs : Nat → Int32} {x : Int64} {e : Nat → Nat} {s : qp_S} {c1 c2 : Nat} {r : qm_R} {i : Int32} {u5 u6 : Option qm_V} {s' s2 : qp_S} {x' : Int64} {e' : Nat → Nat} {n : Nat} {v b : Int32} (hg : qm_cmp .gt i (Int32.ofNat L - 6) = false) (h0 : qm_inb i L = true) (hsw : decide ((xs i.toNatClampNeg &&& 31) = 2) = true) (h1 : qm_inb (i + 1) L = true) (h2 : qm_inb (i + 2) L = true) (h3 : qm_inb (i + 3) L = true) (h4 : qm_inb (i + 4) L = true) (hw : qm_E (qz_ro L xs) 11 30 (0, qm_ent 30 [vR 1 0, vI (xs (i + 1).toNatClampNeg), vI (xs (i + 2).toNatClampNeg), vI (xs (i + 3).toNatClampNeg), vI (xs (i + 4).toNatClampNeg)], [], qp_H s x e, (0, 0)) (.inl (some (vI v)), qp_H s' x' e', (n, 6 * n))) (hz : qf119 (xs (i + 1).toNatClampNeg) (xs (i + 2).toNatClampNeg) (xs (i + 3).toNatClampNeg) (xs (i + 4).toNatClampNeg) s' = some (b, s2)) (ht : s2 30 0 0 = v) (kk : ∀ u5 u6, qm_E (qz_ro L xs) 12 169 (23, ql_L (i + 6) u5 u6, [], qp_H s2 x' e', (c1 + n, c2 + 6 * n)) r) : qm_E (qz_ro L xs) 12 169 (23, ql_L i u5 u6, [], qp_H s x e, (c1, c2)) r := by
  iterate 5 refine qm_E_next rfl ?_
  refine qr_f hg rfl ?_
  iterate 2 refine qm_E_next rfl ?_
  refine qr_roload h0 rfl rfl rfl ?_
  iterate 2 refine qm_E_next rfl ?_
  refine qr_tsv hsw rfl ?_
  change qm_E _ _ _ (248, ql_L i u5 u6, [], qp_H s x e, (c1, c2)) _
  iterate 5 refine qm_E_next rfl ?_
  refine qr_roload h1 rfl rfl rfl ?_
  iterate 4 refine qm_E_next rfl ?_
  refine qr_roload h2 rfl rfl rfl ?_
  iterate 4 refine qm_E_next rfl ?_
  refine qr_roload h3 rfl rfl rfl ?_
  iterate 4 refine qm_E_next rfl ?_
  refine qr_roload h4 rfl rfl rfl ?_
  refine qm_E_call rfl hw rfl ?_
  change qm_E _ _ _ (276, ql_L i u5 u6, [vI v], qp_H s' x' e', (c1 + n, c2 + 6 * n)) _
  iterate 6 refine qm_E_next rfl ?_
  refine qr_roload h1 rfl rfl rfl ?_
  iterate 4 refine qm_E_next rfl ?_
  refine qr_roload h2 rfl rfl rfl ?_
  iterate 4 refine qm_E_next rfl ?_
  refine qr_roload h3 rfl rfl rfl ?_
  iterate 4 refine qm_E_next rfl ?_
  refine qr_roload h4 rfl rfl rfl ?_
  refine qm_E_call rfl (qe119 10 hz) rfl ?_
  change qm_E _ _ _ (306, ql_L i (some (vI v)) u6, [], qp_H s2 x' e', (c1 + n, c2 + 6 * n)) _
  iterate 1 refine qm_E_next rfl ?_
  refine qm_E_call rfl (qe114 11 (congrArg some ht)) rfl ?_
  change qm_E _ _ _ (310, ql_L i (some (vI v)) u6, [vI v], qp_H s2 x' e', (c1 + n, c2 + 6 * n)) _
  iterate 1 refine qm_E_next rfl ?_
  refine qr_t (ql_eq _) rfl ?_
  change qm_E _ _ _ (317, ql_L i (some (vI v)) u6, [], qp_H s2 x' e', (c1 + n, c2 + 6 * n)) _
  iterate 1 refine qm_E_next rfl ?_
  iterate 2 refine qm_E_next rfl ?_
  exact kk _ _
theorem ql3 {L : Nat} {xs : Nat → Int32} {x : Int64} {e : Nat → Nat} {s : qp_S} {c1 c2 : Nat} {r : qm_R} {i : Int32} {u5 u6 : Option qm_V} {s' s2 : qp_S} {x' : Int64} {e' : Nat → Nat} {n : Nat} {v b : Int32} (hg : qm_cmp .gt i (Int32.ofNat L - 6) = false) (h0 : qm_inb i L = true) (hsw : decide ((xs i.toNatClampNeg &&& 31) = 3) = true) (h1 : qm_inb (i + 1) L = true) (h2 : qm_inb (i + 2) L = true) (h3 : qm_inb (i + 3) L = true) (h4 : qm_inb (i + 4) L = true) (hw : qm_E (qz_ro L xs) 11 32 (0, qm_ent 32 [vR 1 0, vI (xs (i + 1).toNatClampNeg), vI (xs (i + 2).toNatClampNeg), vI (xs (i + 3).toNatClampNeg), vI (xs (i + 4).toNatClampNeg)], [], qp_H s x e, (0, 0)) (.inl (some (vI v)), qp_H s' x' e', (n, 6 * n))) (hz : qf120 (xs (i + 1).toNatClampNeg) (xs (i + 2).toNatClampNeg) (xs (i + 3).toNatClampNeg) (xs (i + 4).toNatClampNeg) s' = some (b, s2)) (ht : s2 30 0 0 = v) (kk : ∀ u5 u6, qm_E (qz_ro L xs) 12 169 (23, ql_L (i + 6) u5 u6, [], qp_H s2 x' e', (c1 + n, c2 + 6 * n)) r) : qm_E (qz_ro L xs) 12 169 (23, ql_L i u5 u6, [], qp_H s x e, (c1, c2)) r := by
  iterate 5 refine qm_E_next rfl ?_
  refine qr_f hg rfl ?_
  iterate 2 refine qm_E_next rfl ?_
  refine qr_roload h0 rfl rfl rfl ?_
  iterate 2 refine qm_E_next rfl ?_
  refine qr_tsv hsw rfl ?_
  change qm_E _ _ _ (320, ql_L i u5 u6, [], qp_H s x e, (c1, c2)) _
  iterate 5 refine qm_E_next rfl ?_
  refine qr_roload h1 rfl rfl rfl ?_
  iterate 4 refine qm_E_next rfl ?_
  refine qr_roload h2 rfl rfl rfl ?_
  iterate 4 refine qm_E_next rfl ?_
  refine qr_roload h3 rfl rfl rfl ?_
  iterate 4 refine qm_E_next rfl ?_
  refine qr_roload h4 rfl rfl rfl ?_
  refine qm_E_call rfl hw rfl ?_
  change qm_E _ _ _ (348, ql_L i u5 u6, [vI v], qp_H s' x' e', (c1 + n, c2 + 6 * n)) _
  iterate 6 refine qm_E_next rfl ?_
  refine qr_roload h1 rfl rfl rfl ?_
  iterate 4 refine qm_E_next rfl ?_
  refine qr_roload h2 rfl rfl rfl ?_
  iterate 4 refine qm_E_next rfl ?_
  refine qr_roload h3 rfl rfl rfl ?_
  iterate 4 refine qm_E_next rfl ?_
  refine qr_roload h4 rfl rfl rfl ?_
  refine qm_E_call rfl (qe120 10 hz) rfl ?_
  change qm_E _ _ _ (378, ql_L i (some (vI v)) u6, [], qp_H s2 x' e', (c1 + n, c2 + 6 * n)) _
  iterate 1 refine qm_E_next rfl ?_
  refine qm_E_call rfl (qe114 11 (congrArg some ht)) rfl ?_
  change qm_E _ _ _ (382, ql_L i (some (vI v)) u6, [vI v], qp_H s2 x' e', (c1 + n, c2 + 6 * n)) _
  iterate 1 refine qm_E_next rfl ?_
  refine qr_t (ql_eq _) rfl ?_
  change qm_E _ _ _ (389, ql_L i (some (vI v)) u6, [], qp_H s2 x' e', (c1 + n, c2 + 6 * n)) _
  iterate 1 refine qm_E_next rfl ?_
  iterate 2 refine qm_E_next rfl ?_
  exact kk _ _
theorem ql4 {L : Nat} {xs : Nat → Int32} {x : Int64} {e : Nat → Nat} {s : qp_S} {c1 c2 : Nat} {r : qm_R} {i : Int32} {u5 u6 : Option qm_V} {s' s2 : qp_S} {x' : Int64} {e' : Nat → Nat} {n : Nat} {v b : Int32} (hg : qm_cmp .gt i (Int32.ofNat L - 6) = false) (h0 : qm_inb i L = true) (hsw : decide ((xs i.toNatClampNeg &&& 31) = 4) = true) (h1 : qm_inb (i + 1) L = true) (h2 : qm_inb (i + 2) L = true) (hw : qm_E (qz_ro L xs) 11 35 (0, qm_ent 35 [vR 1 0, vI (xs (i + 1).toNatClampNeg), vI (xs (i + 2).toNatClampNeg)], [], qp_H s x e, (0, 0)) (.inl (some (vI v)), qp_H s' x' e', (n, 6 * n))) (hz : qf121 (xs (i + 1).toNatClampNeg) (xs (i + 2).toNatClampNeg) s' = some (b, s2)) (ht : s2 30 0 0 = v) (kk : ∀ u5 u6, qm_E (qz_ro L xs) 12 169 (23, ql_L (i + 6) u5 u6, [], qp_H s2 x' e', (c1 + n, c2 + 6 * n)) r) : qm_E (qz_ro L xs) 12 169 (23, ql_L i u5 u6, [], qp_H s x e, (c1, c2)) r := by
  iterate 5 refine qm_E_next rfl ?_
  refine qr_f hg rfl ?_
  iterate 2 refine qm_E_next rfl ?_
  refine qr_roload h0 rfl rfl rfl ?_
  iterate 2 refine qm_E_next rfl ?_
  refine qr_tsv hsw rfl ?_
  change qm_E _ _ _ (392, ql_L i u5 u6, [], qp_H s x e, (c1, c2)) _
  iterate 5 refine qm_E_next rfl ?_
  refine qr_roload h1 rfl rfl rfl ?_
  iterate 4 refine qm_E_next rfl ?_
  refine qr_roload h2 rfl rfl rfl ?_
  refine qm_E_call rfl hw rfl ?_
  change qm_E _ _ _ (408, ql_L i u5 u6, [vI v], qp_H s' x' e', (c1 + n, c2 + 6 * n)) _
  iterate 6 refine qm_E_next rfl ?_
  refine qr_roload h1 rfl rfl rfl ?_
  iterate 4 refine qm_E_next rfl ?_
  refine qr_roload h2 rfl rfl rfl ?_
  refine qm_E_call rfl (qe121 10 hz) rfl ?_
  change qm_E _ _ _ (426, ql_L i (some (vI v)) u6, [], qp_H s2 x' e', (c1 + n, c2 + 6 * n)) _
  iterate 1 refine qm_E_next rfl ?_
  refine qm_E_call rfl (qe114 11 (congrArg some ht)) rfl ?_
  change qm_E _ _ _ (430, ql_L i (some (vI v)) u6, [vI v], qp_H s2 x' e', (c1 + n, c2 + 6 * n)) _
  iterate 1 refine qm_E_next rfl ?_
  refine qr_t (ql_eq _) rfl ?_
  change qm_E _ _ _ (437, ql_L i (some (vI v)) u6, [], qp_H s2 x' e', (c1 + n, c2 + 6 * n)) _
  iterate 1 refine qm_E_next rfl ?_
  iterate 2 refine qm_E_next rfl ?_
  exact kk _ _
theorem ql5 {L : Nat} {xs : Nat → Int32} {x : Int64} {e : Nat → Nat} {s : qp_S} {c1 c2 : Nat} {r : qm_R} {i : Int32} {u5 u6 : Option qm_V} {s' s2 : qp_S} {x' : Int64} {e' : Nat → Nat} {n : Nat} {v b : Int32} (hg : qm_cmp .gt i (Int32.ofNat L - 6) = false) (h0 : qm_inb i L = true) (hsw : decide ((xs i.toNatClampNeg &&& 31) = 5) = true) (h1 : qm_inb (i + 1) L = true) (h2 : qm_inb (i + 2) L = true) (h3 : qm_inb (i + 3) L = true) (hw : qm_E (qz_ro L xs) 11 37 (0, qm_ent 37 [vR 1 0, vI (xs (i + 1).toNatClampNeg), vI (xs (i + 2).toNatClampNeg), vI (xs (i + 3).toNatClampNeg)], [], qp_H s x e, (0, 0)) (.inl (some (vI v)), qp_H s' x' e', (n, 6 * n))) (hz : qf122 (xs (i + 1).toNatClampNeg) (xs (i + 2).toNatClampNeg) (xs (i + 3).toNatClampNeg) s' = some (b, s2)) (ht : s2 30 0 0 = v) (kk : ∀ u5 u6, qm_E (qz_ro L xs) 12 169 (23, ql_L (i + 6) u5 u6, [], qp_H s2 x' e', (c1 + n, c2 + 6 * n)) r) : qm_E (qz_ro L xs) 12 169 (23, ql_L i u5 u6, [], qp_H s x e, (c1, c2)) r := by
  iterate 5 refine qm_E_next rfl ?_
  refine qr_f hg rfl ?_
  iterate 2 refine qm_E_next rfl ?_
  refine qr_roload h0 rfl rfl rfl ?_
  iterate 2 refine qm_E_next rfl ?_
  refine qr_tsv hsw rfl ?_
  change qm_E _ _ _ (440, ql_L i u5 u6, [], qp_H s x e, (c1, c2)) _
  iterate 5 refine qm_E_next rfl ?_
  refine qr_roload h1 rfl rfl rfl ?_
  iterate 4 refine qm_E_next rfl ?_
  refine qr_roload h2 rfl rfl rfl ?_
  iterate 4 refine qm_E_next rfl ?_
  refine qr_roload h3 rfl rfl rfl ?_
  refine qm_E_call rfl hw rfl ?_
  change qm_E _ _ _ (462, ql_L i u5 u6, [vI v], qp_H s' x' e', (c1 + n, c2 + 6 * n)) _
  iterate 6 refine qm_E_next rfl ?_
  refine qr_roload h1 rfl rfl rfl ?_
  iterate 4 refine qm_E_next rfl ?_
  refine qr_roload h2 rfl rfl rfl ?_
  iterate 4 refine qm_E_next rfl ?_
  refine qr_roload h3 rfl rfl rfl ?_
  refine qm_E_call rfl (qe122 10 hz) rfl ?_
  change qm_E _ _ _ (486, ql_L i (some (vI v)) u6, [], qp_H s2 x' e', (c1 + n, c2 + 6 * n)) _
  iterate 1 refine qm_E_next rfl ?_
  refine qm_E_call rfl (qe114 11 (congrArg some ht)) rfl ?_
  change qm_E _ _ _ (490, ql_L i (some (vI v)) u6, [vI v], qp_H s2 x' e', (c1 + n, c2 + 6 * n)) _
  iterate 1 refine qm_E_next rfl ?_
  refine qr_t (ql_eq _) rfl ?_
  change qm_E _ _ _ (497, ql_L i (some (vI v)) u6, [], qp_H s2 x' e', (c1 + n, c2 + 6 * n)) _
  iterate 1 refine qm_E_next rfl ?_
  iterate 2 refine qm_E_next rfl ?_
  exact kk _ _
theorem ql6 {L : Nat} {xs : Nat → Int32} {x : Int64} {e : Nat → Nat} {s : qp_S} {c1 c2 : Nat} {r : qm_R} {i : Int32} {u5 u6 : Option qm_V} {s' s2 : qp_S} {x' : Int64} {e' : Nat → Nat} {n : Nat} {v b : Int32} (hg : qm_cmp .gt i (Int32.ofNat L - 6) = false) (h0 : qm_inb i L = true) (hsw : decide ((xs i.toNatClampNeg &&& 31) = 6) = true) (h1 : qm_inb (i + 1) L = true) (h2 : qm_inb (i + 2) L = true) (h3 : qm_inb (i + 3) L = true) (h4 : qm_inb (i + 4) L = true) (h5 : qm_inb (i + 5) L = true) (hw : qm_E (qz_ro L xs) 11 39 (0, qm_ent 39 [vR 1 0, vI (xs (i + 1).toNatClampNeg), vI (xs (i + 2).toNatClampNeg), vI (xs (i + 3).toNatClampNeg), vI (xs (i + 4).toNatClampNeg), vI (xs (i + 5).toNatClampNeg), vR 61 0], [], qp_H s x e, (0, 0)) (.inl (some (vI v)), qp_H s' x' e', (n, 6 * n))) (hz : qf123 (xs (i + 1).toNatClampNeg) (xs (i + 2).toNatClampNeg) (xs (i + 3).toNatClampNeg) (xs (i + 4).toNatClampNeg) (xs (i + 5).toNatClampNeg) s' = some (b, s2)) (ht : s2 30 0 0 = v) (hr : v = 0 → x' = b.toInt64) (kk : ∀ u5 u6, qm_E (qz_ro L xs) 12 169 (23, ql_L (i + 6) u5 u6, [], qp_H s2 x' e', (c1 + n, c2 + 6 * n)) r) : qm_E (qz_ro L xs) 12 169 (23, ql_L i u5 u6, [], qp_H s x e, (c1, c2)) r := by
  iterate 5 refine qm_E_next rfl ?_
  refine qr_f hg rfl ?_
  iterate 2 refine qm_E_next rfl ?_
  refine qr_roload h0 rfl rfl rfl ?_
  iterate 2 refine qm_E_next rfl ?_
  refine qr_tsv hsw rfl ?_
  change qm_E _ _ _ (500, ql_L i u5 u6, [], qp_H s x e, (c1, c2)) _
  iterate 5 refine qm_E_next rfl ?_
  refine qr_roload h1 rfl rfl rfl ?_
  iterate 4 refine qm_E_next rfl ?_
  refine qr_roload h2 rfl rfl rfl ?_
  iterate 4 refine qm_E_next rfl ?_
  refine qr_roload h3 rfl rfl rfl ?_
  iterate 4 refine qm_E_next rfl ?_
  refine qr_roload h4 rfl rfl rfl ?_
  iterate 4 refine qm_E_next rfl ?_
  refine qr_roload h5 rfl rfl rfl ?_
  iterate 1 refine qm_E_next rfl ?_
  refine qm_E_call rfl hw rfl ?_
  change qm_E _ _ _ (535, ql_L i u5 u6, [vI v], qp_H s' x' e', (c1 + n, c2 + 6 * n)) _
  iterate 6 refine qm_E_next rfl ?_
  refine qr_roload h1 rfl rfl rfl ?_
  iterate 4 refine qm_E_next rfl ?_
  refine qr_roload h2 rfl rfl rfl ?_
  iterate 4 refine qm_E_next rfl ?_
  refine qr_roload h3 rfl rfl rfl ?_
  iterate 4 refine qm_E_next rfl ?_
  refine qr_roload h4 rfl rfl rfl ?_
  iterate 4 refine qm_E_next rfl ?_
  refine qr_roload h5 rfl rfl rfl ?_
  refine qm_E_call rfl (qe123 10 hz) rfl ?_
  change qm_E _ _ _ (571, ql_L i (some (vI v)) u6, [vI b], qp_H s2 x' e', (c1 + n, c2 + 6 * n)) _
  iterate 2 refine qm_E_next rfl ?_
  refine qm_E_call rfl (qe114 11 (congrArg some ht)) rfl ?_
  change qm_E _ _ _ (577, ql_L i (some (vI v)) (some (vI b)), [vI v], qp_H s2 x' e', (c1 + n, c2 + 6 * n)) _
  iterate 1 refine qm_E_next rfl ?_
  refine qr_t (ql_eq _) rfl ?_
  change qm_E _ _ _ (584, ql_L i (some (vI v)) (some (vI b)), [], qp_H s2 x' e', (c1 + n, c2 + 6 * n)) _
  iterate 1 refine qm_E_next rfl ?_
  cases hv : qm_cmp .ne v 0 with
  | true =>
    refine qr_t hv rfl ?_
    iterate 3 refine qm_E_next rfl ?_
    exact kk _ _
  | false =>
    refine qr_f hv rfl ?_
    have hl : qm_cmp .eq (lg_cmp x' b.toInt64) 0 = true := by rw [hr (Classical.not_not.mp (of_decide_eq_false hv))]; exact ql_lc _
    iterate 6 refine qm_E_next rfl ?_
    refine qr_t hl rfl ?_
    iterate 3 refine qm_E_next rfl ?_
    exact kk _ _
theorem ql7 {L : Nat} {xs : Nat → Int32} {x : Int64} {e : Nat → Nat} {s : qp_S} {c1 c2 : Nat} {r : qm_R} {i : Int32} {u5 u6 : Option qm_V} {s' s2 : qp_S} {x' : Int64} {e' : Nat → Nat} {n : Nat} {v b : Int32} (hg : qm_cmp .gt i (Int32.ofNat L - 6) = false) (h0 : qm_inb i L = true) (hsw : decide ((xs i.toNatClampNeg &&& 31) = 7) = true) (h1 : qm_inb (i + 1) L = true) (h2 : qm_inb (i + 2) L = true) (hw : qm_E (qz_ro L xs) 11 43 (0, qm_ent 43 [vR 1 0, vI (xs (i + 1).toNatClampNeg), vI (xs (i + 2).toNatClampNeg)], [], qp_H s x e, (0, 0)) (.inl (some (vI v)), qp_H s' x' e', (n, 6 * n))) (hz : qf124 (xs (i + 1).toNatClampNeg) (xs (i + 2).toNatClampNeg) s' = some (b, s2)) (ht : s2 30 0 0 = v) (kk : ∀ u5 u6, qm_E (qz_ro L xs) 12 169 (23, ql_L (i + 6) u5 u6, [], qp_H s2 x' e', (c1 + n, c2 + 6 * n)) r) : qm_E (qz_ro L xs) 12 169 (23, ql_L i u5 u6, [], qp_H s x e, (c1, c2)) r := by
  iterate 5 refine qm_E_next rfl ?_
  refine qr_f hg rfl ?_
  iterate 2 refine qm_E_next rfl ?_
  refine qr_roload h0 rfl rfl rfl ?_
  iterate 2 refine qm_E_next rfl ?_
  refine qr_tsv hsw rfl ?_
  change qm_E _ _ _ (604, ql_L i u5 u6, [], qp_H s x e, (c1, c2)) _
  iterate 5 refine qm_E_next rfl ?_
  refine qr_roload h1 rfl rfl rfl ?_
  iterate 4 refine qm_E_next rfl ?_
  refine qr_roload h2 rfl rfl rfl ?_
  refine qm_E_call rfl hw rfl ?_
  change qm_E _ _ _ (620, ql_L i u5 u6, [vI v], qp_H s' x' e', (c1 + n, c2 + 6 * n)) _
  iterate 6 refine qm_E_next rfl ?_
  refine qr_roload h1 rfl rfl rfl ?_
  iterate 4 refine qm_E_next rfl ?_
  refine qr_roload h2 rfl rfl rfl ?_
  refine qm_E_call rfl (qe124 9 hz) rfl ?_
  change qm_E _ _ _ (638, ql_L i (some (vI v)) u6, [], qp_H s2 x' e', (c1 + n, c2 + 6 * n)) _
  iterate 1 refine qm_E_next rfl ?_
  refine qm_E_call rfl (qe114 11 (congrArg some ht)) rfl ?_
  change qm_E _ _ _ (642, ql_L i (some (vI v)) u6, [vI v], qp_H s2 x' e', (c1 + n, c2 + 6 * n)) _
  iterate 1 refine qm_E_next rfl ?_
  refine qr_t (ql_eq _) rfl ?_
  change qm_E _ _ _ (649, ql_L i (some (vI v)) u6, [], qp_H s2 x' e', (c1 + n, c2 + 6 * n)) _
  iterate 1 refine qm_E_next rfl ?_
  iterate 2 refine qm_E_next rfl ?_
  exact kk _ _
theorem ql8 {L : Nat} {xs : Nat → Int32} {x : Int64} {e : Nat → Nat} {s : qp_S} {c1 c2 : Nat} {r : qm_R} {i : Int32} {u5 u6 : Option qm_V} {s' s2 : qp_S} {x' : Int64} {e' : Nat → Nat} {n : Nat} {v b : Int32} (hg : qm_cmp .gt i (Int32.ofNat L - 6) = false) (h0 : qm_inb i L = true) (hsw : decide ((xs i.toNatClampNeg &&& 31) = 8) = true) (h1 : qm_inb (i + 1) L = true) (h2 : qm_inb (i + 2) L = true) (hw : qm_E (qz_ro L xs) 11 46 (0, qm_ent 46 [vR 1 0, vI (xs (i + 1).toNatClampNeg), vI (xs (i + 2).toNatClampNeg)], [], qp_H s x e, (0, 0)) (.inl (some (vI v)), qp_H s' x' e', (n, 6 * n))) (hz : qf126 (xs (i + 1).toNatClampNeg) (xs (i + 2).toNatClampNeg) s' = some (b, s2)) (ht : s2 30 0 0 = v) (kk : ∀ u5 u6, qm_E (qz_ro L xs) 12 169 (23, ql_L (i + 6) u5 u6, [], qp_H s2 x' e', (c1 + n, c2 + 6 * n)) r) : qm_E (qz_ro L xs) 12 169 (23, ql_L i u5 u6, [], qp_H s x e, (c1, c2)) r := by
  iterate 5 refine qm_E_next rfl ?_
  refine qr_f hg rfl ?_
  iterate 2 refine qm_E_next rfl ?_
  refine qr_roload h0 rfl rfl rfl ?_
  iterate 2 refine qm_E_next rfl ?_
  refine qr_tsv hsw rfl ?_
  change qm_E _ _ _ (652, ql_L i u5 u6, [], qp_H s x e, (c1, c2)) _
  iterate 5 refine qm_E_next rfl ?_
  refine qr_roload h1 rfl rfl rfl ?_
  iterate 4 refine qm_E_next rfl ?_
  refine qr_roload h2 rfl rfl rfl ?_
  refine qm_E_call rfl hw rfl ?_
  change qm_E _ _ _ (668, ql_L i u5 u6, [vI v], qp_H s' x' e', (c1 + n, c2 + 6 * n)) _
  iterate 6 refine qm_E_next rfl ?_
  refine qr_roload h1 rfl rfl rfl ?_
  iterate 4 refine qm_E_next rfl ?_
  refine qr_roload h2 rfl rfl rfl ?_
  refine qm_E_call rfl (qe126 9 hz) rfl ?_
  change qm_E _ _ _ (686, ql_L i (some (vI v)) u6, [], qp_H s2 x' e', (c1 + n, c2 + 6 * n)) _
  iterate 1 refine qm_E_next rfl ?_
  refine qm_E_call rfl (qe114 11 (congrArg some ht)) rfl ?_
  change qm_E _ _ _ (690, ql_L i (some (vI v)) u6, [vI v], qp_H s2 x' e', (c1 + n, c2 + 6 * n)) _
  iterate 1 refine qm_E_next rfl ?_
  refine qr_t (ql_eq _) rfl ?_
  change qm_E _ _ _ (697, ql_L i (some (vI v)) u6, [], qp_H s2 x' e', (c1 + n, c2 + 6 * n)) _
  iterate 1 refine qm_E_next rfl ?_
  iterate 2 refine qm_E_next rfl ?_
  exact kk _ _
theorem ql9 {L : Nat} {xs : Nat → Int32} {x : Int64} {e : Nat → Nat} {s : qp_S} {c1 c2 : Nat} {r : qm_R} {i : Int32} {u5 u6 : Option qm_V} {s' s2 : qp_S} {x' : Int64} {e' : Nat → Nat} {n : Nat} {v b : Int32} (hg : qm_cmp .gt i (Int32.ofNat L - 6) = false) (h0 : qm_inb i L = true) (hsw : decide ((xs i.toNatClampNeg &&& 31) = 9) = true)  (hw : qm_E (qz_ro L xs) 11 48 (0, qm_ent 48 [vR 1 0, vR 61 0], [], qp_H s x e, (0, 0)) (.inl (some (vI v)), qp_H s' x' e', (n, 6 * n))) (hz : qf127  s' = some (b, s2)) (ht : s2 30 0 0 = v) (hr : v = 0 → x' = b.toInt64) (kk : ∀ u5 u6, qm_E (qz_ro L xs) 12 169 (23, ql_L (i + 6) u5 u6, [], qp_H s2 x' e', (c1 + n, c2 + 6 * n)) r) : qm_E (qz_ro L xs) 12 169 (23, ql_L i u5 u6, [], qp_H s x e, (c1, c2)) r := by
  iterate 5 refine qm_E_next rfl ?_
  refine qr_f hg rfl ?_
  iterate 2 refine qm_E_next rfl ?_
  refine qr_roload h0 rfl rfl rfl ?_
  iterate 2 refine qm_E_next rfl ?_
  refine qr_tsv hsw rfl ?_
  change qm_E _ _ _ (700, ql_L i u5 u6, [], qp_H s x e, (c1, c2)) _
  iterate 2 refine qm_E_next rfl ?_
  refine qm_E_call rfl hw rfl ?_
  change qm_E _ _ _ (705, ql_L i u5 u6, [vI v], qp_H s' x' e', (c1 + n, c2 + 6 * n)) _
  iterate 2 refine qm_E_next rfl ?_
  refine qm_E_call rfl (qe127 4 hz) rfl ?_
  change qm_E _ _ _ (711, ql_L i (some (vI v)) u6, [vI b], qp_H s2 x' e', (c1 + n, c2 + 6 * n)) _
  iterate 2 refine qm_E_next rfl ?_
  refine qm_E_call rfl (qe114 11 (congrArg some ht)) rfl ?_
  change qm_E _ _ _ (717, ql_L i (some (vI v)) (some (vI b)), [vI v], qp_H s2 x' e', (c1 + n, c2 + 6 * n)) _
  iterate 1 refine qm_E_next rfl ?_
  refine qr_t (ql_eq _) rfl ?_
  change qm_E _ _ _ (724, ql_L i (some (vI v)) (some (vI b)), [], qp_H s2 x' e', (c1 + n, c2 + 6 * n)) _
  iterate 1 refine qm_E_next rfl ?_
  cases hv : qm_cmp .ne v 0 with
  | true =>
    refine qr_t hv rfl ?_
    iterate 3 refine qm_E_next rfl ?_
    exact kk _ _
  | false =>
    refine qr_f hv rfl ?_
    have hl : qm_cmp .eq (lg_cmp x' b.toInt64) 0 = true := by rw [hr (Classical.not_not.mp (of_decide_eq_false hv))]; exact ql_lc _
    iterate 6 refine qm_E_next rfl ?_
    refine qr_t hl rfl ?_
    iterate 3 refine qm_E_next rfl ?_
    exact kk _ _
theorem ql10 {L : Nat} {xs : Nat → Int32} {x : Int64} {e : Nat → Nat} {s : qp_S} {c1 c2 : Nat} {r : qm_R} {i : Int32} {u5 u6 : Option qm_V} {s' s2 : qp_S} {x' : Int64} {e' : Nat → Nat} {n : Nat} {v b : Int32} (hg : qm_cmp .gt i (Int32.ofNat L - 6) = false) (h0 : qm_inb i L = true) (hsw : decide ((xs i.toNatClampNeg &&& 31) = 10) = true) (h1 : qm_inb (i + 1) L = true) (h2 : qm_inb (i + 2) L = true) (hw : qm_E (qz_ro L xs) 11 91 (0, qm_ent 91 [vR 1 0, vI (xs (i + 1).toNatClampNeg), vI (xs (i + 2).toNatClampNeg)], [], qp_H s x e, (0, 0)) (.inl (some (vI v)), qp_H s' x' e', (n, 6 * n))) (hz : qf158 (xs (i + 1).toNatClampNeg) (xs (i + 2).toNatClampNeg) s' = some (b, s2)) (ht : s2 30 0 0 = v) (kk : ∀ u5 u6, qm_E (qz_ro L xs) 12 169 (23, ql_L (i + 6) u5 u6, [], qp_H s2 x' e', (c1 + n, c2 + 6 * n)) r) : qm_E (qz_ro L xs) 12 169 (23, ql_L i u5 u6, [], qp_H s x e, (c1, c2)) r := by
  iterate 5 refine qm_E_next rfl ?_
  refine qr_f hg rfl ?_
  iterate 2 refine qm_E_next rfl ?_
  refine qr_roload h0 rfl rfl rfl ?_
  iterate 2 refine qm_E_next rfl ?_
  refine qr_tsv hsw rfl ?_
  change qm_E _ _ _ (744, ql_L i u5 u6, [], qp_H s x e, (c1, c2)) _
  iterate 5 refine qm_E_next rfl ?_
  refine qr_roload h1 rfl rfl rfl ?_
  iterate 4 refine qm_E_next rfl ?_
  refine qr_roload h2 rfl rfl rfl ?_
  refine qm_E_call rfl hw rfl ?_
  change qm_E _ _ _ (760, ql_L i u5 u6, [vI v], qp_H s' x' e', (c1 + n, c2 + 6 * n)) _
  iterate 6 refine qm_E_next rfl ?_
  refine qr_roload h1 rfl rfl rfl ?_
  iterate 4 refine qm_E_next rfl ?_
  refine qr_roload h2 rfl rfl rfl ?_
  refine qm_E_call rfl (qe158 10 hz) rfl ?_
  change qm_E _ _ _ (778, ql_L i (some (vI v)) u6, [], qp_H s2 x' e', (c1 + n, c2 + 6 * n)) _
  iterate 1 refine qm_E_next rfl ?_
  refine qm_E_call rfl (qe114 11 (congrArg some ht)) rfl ?_
  change qm_E _ _ _ (782, ql_L i (some (vI v)) u6, [vI v], qp_H s2 x' e', (c1 + n, c2 + 6 * n)) _
  iterate 1 refine qm_E_next rfl ?_
  refine qr_t (ql_eq _) rfl ?_
  change qm_E _ _ _ (789, ql_L i (some (vI v)) u6, [], qp_H s2 x' e', (c1 + n, c2 + 6 * n)) _
  iterate 1 refine qm_E_next rfl ?_
  iterate 2 refine qm_E_next rfl ?_
  exact kk _ _
theorem ql11 {L : Nat} {xs : Nat → Int32} {x : Int64} {e : Nat → Nat} {s : qp_S} {c1 c2 : Nat} {r : qm_R} {i : Int32} {u5 u6 : Option qm_V} {s' s2 : qp_S} {x' : Int64} {e' : Nat → Nat} {n : Nat} {v b : Int32} (hg : qm_cmp .gt i (Int32.ofNat L - 6) = false) (h0 : qm_inb i L = true) (hsw : decide ((xs i.toNatClampNeg &&& 31) = 11) = true) (h1 : qm_inb (i + 1) L = true) (hw : qm_E (qz_ro L xs) 11 93 (0, qm_ent 93 [vR 1 0, vI (xs (i + 1).toNatClampNeg), vR 61 0], [], qp_H s x e, (0, 0)) (.inl (some (vI v)), qp_H s' x' e', (n, 6 * n))) (hz : qf159 (xs (i + 1).toNatClampNeg) s' = some (b, s2)) (ht : s2 30 0 0 = v) (hr : v = 0 → x' = (bif qm_cmp .eq b 0 then 0 else 1)) (kk : ∀ u5 u6, qm_E (qz_ro L xs) 12 169 (23, ql_L (i + 6) u5 u6, [], qp_H s2 x' e', (c1 + n, c2 + 6 * n)) r) : qm_E (qz_ro L xs) 12 169 (23, ql_L i u5 u6, [], qp_H s x e, (c1, c2)) r := by
  iterate 5 refine qm_E_next rfl ?_
  refine qr_f hg rfl ?_
  iterate 2 refine qm_E_next rfl ?_
  refine qr_roload h0 rfl rfl rfl ?_
  iterate 2 refine qm_E_next rfl ?_
  refine qr_tsv hsw rfl ?_
  change qm_E _ _ _ (792, ql_L i u5 u6, [], qp_H s x e, (c1, c2)) _
  iterate 5 refine qm_E_next rfl ?_
  refine qr_roload h1 rfl rfl rfl ?_
  iterate 1 refine qm_E_next rfl ?_
  refine qm_E_call rfl hw rfl ?_
  change qm_E _ _ _ (803, ql_L i u5 u6, [vI v], qp_H s' x' e', (c1 + n, c2 + 6 * n)) _
  iterate 6 refine qm_E_next rfl ?_
  refine qr_roload h1 rfl rfl rfl ?_
  refine qm_E_call rfl (qe159 10 hz) rfl ?_
  change qm_E _ _ _ (815, ql_L i (some (vI v)) u6, [vI b], qp_H s2 x' e', (c1 + n, c2 + 6 * n)) _
  iterate 2 refine qm_E_next rfl ?_
  refine qm_E_call rfl (qe114 11 (congrArg some ht)) rfl ?_
  change qm_E _ _ _ (821, ql_L i (some (vI v)) (some (vI b)), [vI v], qp_H s2 x' e', (c1 + n, c2 + 6 * n)) _
  iterate 1 refine qm_E_next rfl ?_
  refine qr_t (ql_eq _) rfl ?_
  change qm_E _ _ _ (828, ql_L i (some (vI v)) (some (vI b)), [], qp_H s2 x' e', (c1 + n, c2 + 6 * n)) _
  iterate 1 refine qm_E_next rfl ?_
  cases hv : qm_cmp .ne v 0 with
  | true =>
    refine qr_t hv rfl ?_
    iterate 3 refine qm_E_next rfl ?_
    exact kk _ _
  | false =>
    refine qr_f hv rfl ?_
    have hr := hr (Classical.not_not.mp (of_decide_eq_false hv))
    iterate 4 refine qm_E_next rfl ?_
    cases hb : qm_cmp .eq b 0 with
    | true =>
      rw [hb] at hr
      have hl : qm_cmp .eq (lg_cmp x' 0) 0 = true := by rw [hr]; exact ql_lc _
      refine qr_t hb rfl ?_
      iterate 2 refine qm_E_next rfl ?_
      refine qr_t hl rfl ?_
      iterate 3 refine qm_E_next rfl ?_
      exact kk _ _
    | false =>
      rw [hb] at hr
      have hl : qm_cmp .eq (lg_cmp x' 1) 0 = true := by rw [hr]; exact ql_lc _
      refine qr_f hb rfl ?_
      iterate 3 refine qm_E_next rfl ?_
      refine qr_t hl rfl ?_
      iterate 3 refine qm_E_next rfl ?_
      exact kk _ _
theorem ql12 {L : Nat} {xs : Nat → Int32} {x : Int64} {e : Nat → Nat} {s : qp_S} {c1 c2 : Nat} {r : qm_R} {i : Int32} {u5 u6 : Option qm_V} {s' s2 : qp_S} {x' : Int64} {e' : Nat → Nat} {n : Nat} {v b : Int32} (hg : qm_cmp .gt i (Int32.ofNat L - 6) = false) (h0 : qm_inb i L = true) (hsw : decide ((xs i.toNatClampNeg &&& 31) = 12) = true) (h1 : qm_inb (i + 1) L = true) (hw : qm_E (qz_ro L xs) 11 104 (0, qm_ent 104 [vR 1 0, vI (xs (i + 1).toNatClampNeg), vR 61 0], [], qp_H s x e, (0, 0)) (.inl (some (vI v)), qp_H s' x' e', (n, 6 * n))) (hz : qf161 (xs (i + 1).toNatClampNeg) s' = some (b, s2)) (ht : s2 30 0 0 = v) (hr : v = 0 → x' = b.toInt64) (kk : ∀ u5 u6, qm_E (qz_ro L xs) 12 169 (23, ql_L (i + 6) u5 u6, [], qp_H s2 x' e', (c1 + n, c2 + 6 * n)) r) : qm_E (qz_ro L xs) 12 169 (23, ql_L i u5 u6, [], qp_H s x e, (c1, c2)) r := by
  iterate 5 refine qm_E_next rfl ?_
  refine qr_f hg rfl ?_
  iterate 2 refine qm_E_next rfl ?_
  refine qr_roload h0 rfl rfl rfl ?_
  iterate 2 refine qm_E_next rfl ?_
  refine qr_tsv hsw rfl ?_
  change qm_E _ _ _ (855, ql_L i u5 u6, [], qp_H s x e, (c1, c2)) _
  iterate 5 refine qm_E_next rfl ?_
  refine qr_roload h1 rfl rfl rfl ?_
  iterate 1 refine qm_E_next rfl ?_
  refine qm_E_call rfl hw rfl ?_
  change qm_E _ _ _ (866, ql_L i u5 u6, [vI v], qp_H s' x' e', (c1 + n, c2 + 6 * n)) _
  iterate 6 refine qm_E_next rfl ?_
  refine qr_roload h1 rfl rfl rfl ?_
  refine qm_E_call rfl (qe161 9 hz) rfl ?_
  change qm_E _ _ _ (878, ql_L i (some (vI v)) u6, [vI b], qp_H s2 x' e', (c1 + n, c2 + 6 * n)) _
  iterate 2 refine qm_E_next rfl ?_
  refine qm_E_call rfl (qe114 11 (congrArg some ht)) rfl ?_
  change qm_E _ _ _ (884, ql_L i (some (vI v)) (some (vI b)), [vI v], qp_H s2 x' e', (c1 + n, c2 + 6 * n)) _
  iterate 1 refine qm_E_next rfl ?_
  refine qr_t (ql_eq _) rfl ?_
  change qm_E _ _ _ (891, ql_L i (some (vI v)) (some (vI b)), [], qp_H s2 x' e', (c1 + n, c2 + 6 * n)) _
  iterate 1 refine qm_E_next rfl ?_
  cases hv : qm_cmp .ne v 0 with
  | true =>
    refine qr_t hv rfl ?_
    iterate 3 refine qm_E_next rfl ?_
    exact kk _ _
  | false =>
    refine qr_f hv rfl ?_
    have hl : qm_cmp .eq (lg_cmp x' b.toInt64) 0 = true := by rw [hr (Classical.not_not.mp (of_decide_eq_false hv))]; exact ql_lc _
    iterate 6 refine qm_E_next rfl ?_
    refine qr_t hl rfl ?_
    iterate 3 refine qm_E_next rfl ?_
    exact kk _ _
theorem ql13 {L : Nat} {xs : Nat → Int32} {x : Int64} {e : Nat → Nat} {s : qp_S} {c1 c2 : Nat} {r : qm_R} {i : Int32} {u5 u6 : Option qm_V} {s' s2 : qp_S} {x' : Int64} {e' : Nat → Nat} {n : Nat} {v b : Int32} (hg : qm_cmp .gt i (Int32.ofNat L - 6) = false) (h0 : qm_inb i L = true) (hsw : decide ((xs i.toNatClampNeg &&& 31) = 13) = true)  (hw : qm_E (qz_ro L xs) 11 108 (0, qm_ent 108 [vR 1 0, vR 61 0], [], qp_H s x e, (0, 0)) (.inl (some (vI v)), qp_H s' x' e', (n, 6 * n))) (hz : qf163  s' = some (b, s2)) (ht : s2 30 0 0 = v) (hr : v = 0 → x' = b.toInt64) (kk : ∀ u5 u6, qm_E (qz_ro L xs) 12 169 (23, ql_L (i + 6) u5 u6, [], qp_H s2 x' e', (c1 + n, c2 + 6 * n)) r) : qm_E (qz_ro L xs) 12 169 (23, ql_L i u5 u6, [], qp_H s x e, (c1, c2)) r := by
  iterate 5 refine qm_E_next rfl ?_
  refine qr_f hg rfl ?_
  iterate 2 refine qm_E_next rfl ?_
  refine qr_roload h0 rfl rfl rfl ?_
  iterate 2 refine qm_E_next rfl ?_
  refine qr_tsv hsw rfl ?_
  change qm_E _ _ _ (911, ql_L i u5 u6, [], qp_H s x e, (c1, c2)) _
  iterate 2 refine qm_E_next rfl ?_
  refine qm_E_call rfl hw rfl ?_
  change qm_E _ _ _ (916, ql_L i u5 u6, [vI v], qp_H s' x' e', (c1 + n, c2 + 6 * n)) _
  iterate 2 refine qm_E_next rfl ?_
  refine qm_E_call rfl (qe163 6 hz) rfl ?_
  change qm_E _ _ _ (922, ql_L i (some (vI v)) u6, [vI b], qp_H s2 x' e', (c1 + n, c2 + 6 * n)) _
  iterate 2 refine qm_E_next rfl ?_
  refine qm_E_call rfl (qe114 11 (congrArg some ht)) rfl ?_
  change qm_E _ _ _ (928, ql_L i (some (vI v)) (some (vI b)), [vI v], qp_H s2 x' e', (c1 + n, c2 + 6 * n)) _
  iterate 1 refine qm_E_next rfl ?_
  refine qr_t (ql_eq _) rfl ?_
  change qm_E _ _ _ (935, ql_L i (some (vI v)) (some (vI b)), [], qp_H s2 x' e', (c1 + n, c2 + 6 * n)) _
  iterate 1 refine qm_E_next rfl ?_
  cases hv : qm_cmp .ne v 0 with
  | true =>
    refine qr_t hv rfl ?_
    iterate 3 refine qm_E_next rfl ?_
    exact kk _ _
  | false =>
    refine qr_f hv rfl ?_
    have hl : qm_cmp .eq (lg_cmp x' b.toInt64) 0 = true := by rw [hr (Classical.not_not.mp (of_decide_eq_false hv))]; exact ql_lc _
    iterate 6 refine qm_E_next rfl ?_
    refine qr_t hl rfl ?_
    iterate 3 refine qm_E_next rfl ?_
    exact kk _ _
theorem ql14 {L : Nat} {xs : Nat → Int32} {x : Int64} {e : Nat → Nat} {s : qp_S} {c1 c2 : Nat} {r : qm_R} {i : Int32} {u5 u6 : Option qm_V} {s' s2 : qp_S} {x' : Int64} {e' : Nat → Nat} {n : Nat} {v b : Int32} (hg : qm_cmp .gt i (Int32.ofNat L - 6) = false) (h0 : qm_inb i L = true) (hsw : decide ((xs i.toNatClampNeg &&& 31) = 14) = true) (h1 : qm_inb (i + 1) L = true) (hw : qm_E (qz_ro L xs) 11 111 (0, qm_ent 111 [vR 1 0, vI (xs (i + 1).toNatClampNeg), vR 61 0], [], qp_H s x e, (0, 0)) (.inl (some (vI v)), qp_H s' x' e', (n, 6 * n))) (hz : qf164 (xs (i + 1).toNatClampNeg) s' = some (b, s2)) (ht : s2 30 0 0 = v) (hr : v = 0 → x' = b.toInt64) (kk : ∀ u5 u6, qm_E (qz_ro L xs) 12 169 (23, ql_L (i + 6) u5 u6, [], qp_H s2 x' e', (c1 + n, c2 + 6 * n)) r) : qm_E (qz_ro L xs) 12 169 (23, ql_L i u5 u6, [], qp_H s x e, (c1, c2)) r := by
  iterate 5 refine qm_E_next rfl ?_
  refine qr_f hg rfl ?_
  iterate 2 refine qm_E_next rfl ?_
  refine qr_roload h0 rfl rfl rfl ?_
  iterate 2 refine qm_E_next rfl ?_
  refine qr_tsv hsw rfl ?_
  change qm_E _ _ _ (955, ql_L i u5 u6, [], qp_H s x e, (c1, c2)) _
  iterate 5 refine qm_E_next rfl ?_
  refine qr_roload h1 rfl rfl rfl ?_
  iterate 1 refine qm_E_next rfl ?_
  refine qm_E_call rfl hw rfl ?_
  change qm_E _ _ _ (966, ql_L i u5 u6, [vI v], qp_H s' x' e', (c1 + n, c2 + 6 * n)) _
  iterate 6 refine qm_E_next rfl ?_
  refine qr_roload h1 rfl rfl rfl ?_
  refine qm_E_call rfl (qe164 10 hz) rfl ?_
  change qm_E _ _ _ (978, ql_L i (some (vI v)) u6, [vI b], qp_H s2 x' e', (c1 + n, c2 + 6 * n)) _
  iterate 2 refine qm_E_next rfl ?_
  refine qm_E_call rfl (qe114 11 (congrArg some ht)) rfl ?_
  change qm_E _ _ _ (984, ql_L i (some (vI v)) (some (vI b)), [vI v], qp_H s2 x' e', (c1 + n, c2 + 6 * n)) _
  iterate 1 refine qm_E_next rfl ?_
  refine qr_t (ql_eq _) rfl ?_
  change qm_E _ _ _ (991, ql_L i (some (vI v)) (some (vI b)), [], qp_H s2 x' e', (c1 + n, c2 + 6 * n)) _
  iterate 1 refine qm_E_next rfl ?_
  cases hv : qm_cmp .ne v 0 with
  | true =>
    refine qr_t hv rfl ?_
    iterate 3 refine qm_E_next rfl ?_
    exact kk _ _
  | false =>
    refine qr_f hv rfl ?_
    have hl : qm_cmp .eq (lg_cmp x' b.toInt64) 0 = true := by rw [hr (Classical.not_not.mp (of_decide_eq_false hv))]; exact ql_lc _
    iterate 6 refine qm_E_next rfl ?_
    refine qr_t hl rfl ?_
    iterate 3 refine qm_E_next rfl ?_
    exact kk _ _
theorem ql15 {L : Nat} {xs : Nat → Int32} {x : Int64} {e : Nat → Nat} {s : qp_S} {c1 c2 : Nat} {r : qm_R} {i : Int32} {u5 u6 : Option qm_V} {s2 : qp_S} {b : Int32} (hg : qm_cmp .gt i (Int32.ofNat L - 6) = false) (h0 : qm_inb i L = true) (hsw : decide ((xs i.toNatClampNeg &&& 31) = 15) = true) (h1 : qm_inb (i + 1) L = true) (h2 : qm_inb (i + 2) L = true) (hy : qf12 (xs (i + 1).toNatClampNeg) (xs (i + 2).toNatClampNeg) s = some b) (hz : qf165 (xs (i + 1).toNatClampNeg) (xs (i + 2).toNatClampNeg) s = some (b, s2)) (kk : ∀ u5 u6, qm_E (qz_ro L xs) 12 169 (23, ql_L (i + 6) u5 u6, [], qp_H s2 x e, (c1, c2)) r) : qm_E (qz_ro L xs) 12 169 (23, ql_L i u5 u6, [], qp_H s x e, (c1, c2)) r := by
  iterate 5 refine qm_E_next rfl ?_
  refine qr_f hg rfl ?_
  iterate 2 refine qm_E_next rfl ?_
  refine qr_roload h0 rfl rfl rfl ?_
  iterate 2 refine qm_E_next rfl ?_
  refine qr_tsv hsw rfl ?_
  change qm_E _ _ _ (1011, ql_L i u5 u6, [], qp_H s x e, (c1, c2)) _
  iterate 5 refine qm_E_next rfl ?_
  refine qr_roload h1 rfl rfl rfl ?_
  iterate 4 refine qm_E_next rfl ?_
  refine qr_roload h2 rfl rfl rfl ?_
  refine qm_E_call rfl (qe12 10 hy) rfl ?_
  change qm_E _ _ _ (1027, ql_L i u5 u6, [vI b], qp_H s x e, (c1, c2)) _
  iterate 5 refine qm_E_next rfl ?_
  refine qr_roload h1 rfl rfl rfl ?_
  iterate 4 refine qm_E_next rfl ?_
  refine qr_roload h2 rfl rfl rfl ?_
  refine qm_E_call rfl (qe165 10 hz) rfl ?_
  change qm_E _ _ _ (1043, ql_L i u5 u6, [vI b, vI b], qp_H s2 x e, (c1, c2)) _
  refine qr_t (ql_eq _) rfl ?_
  skip
  iterate 2 refine qm_E_next rfl ?_
  exact kk _ _
theorem ql16 {L : Nat} {xs : Nat → Int32} {x : Int64} {e : Nat → Nat} {s : qp_S} {c1 c2 : Nat} {r : qm_R} {i : Int32} {u5 u6 : Option qm_V} {s2 : qp_S} {b : Int32} (hg : qm_cmp .gt i (Int32.ofNat L - 6) = false) (h0 : qm_inb i L = true) (hsw : decide ((xs i.toNatClampNeg &&& 31) = 16) = true) (h1 : qm_inb (i + 1) L = true) (hy : qf14 (xs (i + 1).toNatClampNeg) s = some b) (hz : qf166 (xs (i + 1).toNatClampNeg) s = some (b, s2)) (kk : ∀ u5 u6, qm_E (qz_ro L xs) 12 169 (23, ql_L (i + 6) u5 u6, [], qp_H s2 x e, (c1, c2)) r) : qm_E (qz_ro L xs) 12 169 (23, ql_L i u5 u6, [], qp_H s x e, (c1, c2)) r := by
  iterate 5 refine qm_E_next rfl ?_
  refine qr_f hg rfl ?_
  iterate 2 refine qm_E_next rfl ?_
  refine qr_roload h0 rfl rfl rfl ?_
  iterate 2 refine qm_E_next rfl ?_
  refine qr_tsv hsw rfl ?_
  change qm_E _ _ _ (1048, ql_L i u5 u6, [], qp_H s x e, (c1, c2)) _
  iterate 5 refine qm_E_next rfl ?_
  refine qr_roload h1 rfl rfl rfl ?_
  refine qm_E_call rfl (qe14 9 hy) rfl ?_
  change qm_E _ _ _ (1058, ql_L i u5 u6, [vI b], qp_H s x e, (c1, c2)) _
  iterate 5 refine qm_E_next rfl ?_
  refine qr_roload h1 rfl rfl rfl ?_
  refine qm_E_call rfl (qe166 10 hz) rfl ?_
  change qm_E _ _ _ (1068, ql_L i u5 u6, [vI b, vI b], qp_H s2 x e, (c1, c2)) _
  refine qr_t (ql_eq _) rfl ?_
  skip
  iterate 2 refine qm_E_next rfl ?_
  exact kk _ _
theorem ql17 {L : Nat} {xs : Nat → Int32} {x : Int64} {e : Nat → Nat} {s : qp_S} {c1 c2 : Nat} {r : qm_R} {i : Int32} {u5 u6 : Option qm_V} {s2 : qp_S} {b : Int32} (hg : qm_cmp .gt i (Int32.ofNat L - 6) = false) (h0 : qm_inb i L = true) (hsw : decide ((xs i.toNatClampNeg &&& 31) = 17) = true) (h1 : qm_inb (i + 1) L = true) (h2 : qm_inb (i + 2) L = true) (hy : qf17 (xs (i + 1).toNatClampNeg) (xs (i + 2).toNatClampNeg) s = some b) (hz : qf167 (xs (i + 1).toNatClampNeg) (xs (i + 2).toNatClampNeg) s = some (b, s2)) (kk : ∀ u5 u6, qm_E (qz_ro L xs) 12 169 (23, ql_L (i + 6) u5 u6, [], qp_H s2 x e, (c1, c2)) r) : qm_E (qz_ro L xs) 12 169 (23, ql_L i u5 u6, [], qp_H s x e, (c1, c2)) r := by
  iterate 5 refine qm_E_next rfl ?_
  refine qr_f hg rfl ?_
  iterate 2 refine qm_E_next rfl ?_
  refine qr_roload h0 rfl rfl rfl ?_
  iterate 2 refine qm_E_next rfl ?_
  refine qr_tsv hsw rfl ?_
  change qm_E _ _ _ (1073, ql_L i u5 u6, [], qp_H s x e, (c1, c2)) _
  iterate 5 refine qm_E_next rfl ?_
  refine qr_roload h1 rfl rfl rfl ?_
  iterate 4 refine qm_E_next rfl ?_
  refine qr_roload h2 rfl rfl rfl ?_
  refine qm_E_call rfl (qe17 9 hy) rfl ?_
  change qm_E _ _ _ (1089, ql_L i u5 u6, [vI b], qp_H s x e, (c1, c2)) _
  iterate 5 refine qm_E_next rfl ?_
  refine qr_roload h1 rfl rfl rfl ?_
  iterate 4 refine qm_E_next rfl ?_
  refine qr_roload h2 rfl rfl rfl ?_
  refine qm_E_call rfl (qe167 8 hz) rfl ?_
  change qm_E _ _ _ (1105, ql_L i u5 u6, [vI b, vI b], qp_H s2 x e, (c1, c2)) _
  refine qr_t (ql_eq _) rfl ?_
  skip
  iterate 2 refine qm_E_next rfl ?_
  exact kk _ _
theorem ql18 {L : Nat} {xs : Nat → Int32} {x : Int64} {e : Nat → Nat} {s : qp_S} {c1 c2 : Nat} {r : qm_R} {i : Int32} {u5 u6 : Option qm_V} {s2 : qp_S} {b : Int32} (hg : qm_cmp .gt i (Int32.ofNat L - 6) = false) (h0 : qm_inb i L = true) (hsw : decide ((xs i.toNatClampNeg &&& 31) = 18) = true) (h1 : qm_inb (i + 1) L = true) (h2 : qm_inb (i + 2) L = true) (hy : qf20 (xs (i + 1).toNatClampNeg) (xs (i + 2).toNatClampNeg) s = some b) (hz : qf168 (xs (i + 1).toNatClampNeg) (xs (i + 2).toNatClampNeg) s = some (b, s2)) (kk : ∀ u5 u6, qm_E (qz_ro L xs) 12 169 (23, ql_L (i + 6) u5 u6, [], qp_H s2 x e, (c1, c2)) r) : qm_E (qz_ro L xs) 12 169 (23, ql_L i u5 u6, [], qp_H s x e, (c1, c2)) r := by
  iterate 5 refine qm_E_next rfl ?_
  refine qr_f hg rfl ?_
  iterate 2 refine qm_E_next rfl ?_
  refine qr_roload h0 rfl rfl rfl ?_
  iterate 2 refine qm_E_next rfl ?_
  refine qr_tsv hsw rfl ?_
  change qm_E _ _ _ (1110, ql_L i u5 u6, [], qp_H s x e, (c1, c2)) _
  iterate 5 refine qm_E_next rfl ?_
  refine qr_roload h1 rfl rfl rfl ?_
  iterate 4 refine qm_E_next rfl ?_
  refine qr_roload h2 rfl rfl rfl ?_
  refine qm_E_call rfl (qe20 9 hy) rfl ?_
  change qm_E _ _ _ (1126, ql_L i u5 u6, [vI b], qp_H s x e, (c1, c2)) _
  iterate 5 refine qm_E_next rfl ?_
  refine qr_roload h1 rfl rfl rfl ?_
  iterate 4 refine qm_E_next rfl ?_
  refine qr_roload h2 rfl rfl rfl ?_
  refine qm_E_call rfl (qe168 10 hz) rfl ?_
  change qm_E _ _ _ (1142, ql_L i u5 u6, [vI b, vI b], qp_H s2 x e, (c1, c2)) _
  refine qr_t (ql_eq _) rfl ?_
  skip
  iterate 2 refine qm_E_next rfl ?_
  exact kk _ _
theorem ql_none {L : Nat} {xs : Nat → Int32} {x : Int64} {e : Nat → Nat} {s : qp_S} {c1 c2 : Nat} {r : qm_R} {i : Int32} {u5 u6 : Option qm_V} (hg : qm_cmp .gt i (Int32.ofNat L - 6) = false) (h0 : qm_inb i L = true) (hsw : decide ((xs i.toNatClampNeg &&& 31).toInt < 0 ∨ 18 < (xs i.toNatClampNeg &&& 31).toInt) = true) (kk : ∀ u5 u6, qm_E (qz_ro L xs) 12 169 (23, ql_L (i + 6) u5 u6, [], qp_H s x e, (c1, c2)) r) : qm_E (qz_ro L xs) 12 169 (23, ql_L i u5 u6, [], qp_H s x e, (c1, c2)) r := by
  iterate 5 refine qm_E_next rfl ?_
  refine qr_f hg rfl ?_
  iterate 2 refine qm_E_next rfl ?_
  refine qr_roload h0 rfl rfl rfl ?_
  iterate 2 refine qm_E_next rfl ?_
  refine qr_tsd hsw rfl rfl rfl ?_
  iterate 2 refine qm_E_next rfl ?_
  exact kk _ _
theorem ql_end {L : Nat} {xs : Nat → Int32} {x : Int64} {e : Nat → Nat} {s : qp_S} {c1 c2 : Nat} {i : Int32} {u5 u6 : Option qm_V} (hg : qm_cmp .gt i (Int32.ofNat L - 6) = true) : qm_E (qz_ro L xs) 12 169 (23, ql_L i u5 u6, [], qp_H s x e, (c1, c2)) (.inl (some (vI 1)), qp_H s x e, (c1, c2)) := by
  iterate 5 refine qm_E_next rfl ?_
  refine qr_t hg rfl ?_
  iterate 1 refine qm_E_next rfl ?_
  exact qr_iret (Or.inr ⟨rfl, Or.inr rfl⟩) rfl rfl
