/-! WHAT CLASS AND REFERENCE OWE EACH OTHER, call by call: the answers are alike, and what holds between their states holds on -/
def qo_op0 (R : qp_S → Prop) : Prop := ∀ (s : qp_S) (a1 a2 : Int32), R s → ∃ b s2, R s2 ∧ ((∃ q, qf23 a1 a2 s = some (.inr q) ∧ qf115 a1 a2 q.2 = some (b, s2) ∧ s2 30 0 0 = 0) ∨ (qf23 a1 a2 s = some (.inl 70) ∧ qf115 a1 a2 s = some (b, s2) ∧ s2 30 0 0 = 1) ∨ (qf23 a1 a2 s = some (.inl 71) ∧ qf115 a1 a2 s = some (b, s2) ∧ s2 30 0 0 = 2) ∨ (qf23 a1 a2 s = some (.inl 72) ∧ qf115 a1 a2 s = some (b, s2) ∧ s2 30 0 0 = 3))
def qo_op1 (R : qp_S → Prop) : Prop := ∀ (s : qp_S) (a1 a2 : Int32), R s → ∃ b s2, R s2 ∧ ((∃ q, qf28 a1 a2 s = some (.inr q) ∧ qf118 a1 a2 q.2 = some (b, s2) ∧ s2 30 0 0 = 0 ∧ q.1 = b) ∨ (qf28 a1 a2 s = some (.inl 70) ∧ qf118 a1 a2 s = some (b, s2) ∧ s2 30 0 0 = 1) ∨ (qf28 a1 a2 s = some (.inl 71) ∧ qf118 a1 a2 s = some (b, s2) ∧ s2 30 0 0 = 2) ∨ (qf28 a1 a2 s = some (.inl 72) ∧ qf118 a1 a2 s = some (b, s2) ∧ s2 30 0 0 = 3))
def qo_op2 (R : qp_S → Prop) : Prop := ∀ (s : qp_S) (a1 a2 a3 a4 : Int32), R s → ∃ b s2, R s2 ∧ ((∃ q, qf31 a1 a2 a3 a4 s = some (.inr q) ∧ qf119 a1 a2 a3 a4 q.2 = some (b, s2) ∧ s2 30 0 0 = 0) ∨ (qf31 a1 a2 a3 a4 s = some (.inl 70) ∧ qf119 a1 a2 a3 a4 s = some (b, s2) ∧ s2 30 0 0 = 1) ∨ (qf31 a1 a2 a3 a4 s = some (.inl 71) ∧ qf119 a1 a2 a3 a4 s = some (b, s2) ∧ s2 30 0 0 = 2) ∨ (qf31 a1 a2 a3 a4 s = some (.inl 72) ∧ qf119 a1 a2 a3 a4 s = some (b, s2) ∧ s2 30 0 0 = 3))
def qo_op3 (R : qp_S → Prop) : Prop := ∀ (s : qp_S) (a1 a2 a3 a4 : Int32), R s → ∃ b s2, R s2 ∧ ((∃ q, qf33 a1 a2 a3 a4 s = some (.inr q) ∧ qf120 a1 a2 a3 a4 q.2 = some (b, s2) ∧ s2 30 0 0 = 0) ∨ (qf33 a1 a2 a3 a4 s = some (.inl 70) ∧ qf120 a1 a2 a3 a4 s = some (b, s2) ∧ s2 30 0 0 = 1) ∨ (qf33 a1 a2 a3 a4 s = some (.inl 71) ∧ qf120 a1 a2 a3 a4 s = some (b, s2) ∧ s2 30 0 0 = 2) ∨ (qf33 a1 a2 a3 a4 s = some (.inl 72) ∧ qf120 a1 a2 a3 a4 s = some (b, s2) ∧ s2 30 0 0 = 3))
def qo_op4 (R : qp_S → Prop) : Prop := ∀ (s : qp_S) (a1 a2 : Int32), R s → ∃ b s2, R s2 ∧ ((∃ q, qf36 a1 a2 s = some (.inr q) ∧ qf121 a1 a2 q.2 = some (b, s2) ∧ s2 30 0 0 = 0) ∨ (qf36 a1 a2 s = some (.inl 70) ∧ qf121 a1 a2 s = some (b, s2) ∧ s2 30 0 0 = 1) ∨ (qf36 a1 a2 s = some (.inl 71) ∧ qf121 a1 a2 s = some (b, s2) ∧ s2 30 0 0 = 2) ∨ (qf36 a1 a2 s = some (.inl 72) ∧ qf121 a1 a2 s = some (b, s2) ∧ s2 30 0 0 = 3))
def qo_op5 (R : qp_S → Prop) : Prop := ∀ (s : qp_S) (a1 a2 a3 : Int32), R s → ∃ b s2, R s2 ∧ ((∃ q, qf38 a1 a2 a3 s = some (.inr q) ∧ qf122 a1 a2 a3 q.2 = some (b, s2) ∧ s2 30 0 0 = 0) ∨ (qf38 a1 a2 a3 s = some (.inl 70) ∧ qf122 a1 a2 a3 s = some (b, s2) ∧ s2 30 0 0 = 1) ∨ (qf38 a1 a2 a3 s = some (.inl 71) ∧ qf122 a1 a2 a3 s = some (b, s2) ∧ s2 30 0 0 = 2) ∨ (qf38 a1 a2 a3 s = some (.inl 72) ∧ qf122 a1 a2 a3 s = some (b, s2) ∧ s2 30 0 0 = 3))
def qo_op6 (R : qp_S → Prop) : Prop := ∀ (s : qp_S) (a1 a2 a3 a4 a5 : Int32), R s → ∃ b s2, R s2 ∧ ((∃ q, qf40 a1 a2 a3 a4 a5 s = some (.inr q) ∧ qf123 a1 a2 a3 a4 a5 q.2 = some (b, s2) ∧ s2 30 0 0 = 0 ∧ q.1 = b) ∨ (qf40 a1 a2 a3 a4 a5 s = some (.inl 70) ∧ qf123 a1 a2 a3 a4 a5 s = some (b, s2) ∧ s2 30 0 0 = 1) ∨ (qf40 a1 a2 a3 a4 a5 s = some (.inl 71) ∧ qf123 a1 a2 a3 a4 a5 s = some (b, s2) ∧ s2 30 0 0 = 2) ∨ (qf40 a1 a2 a3 a4 a5 s = some (.inl 72) ∧ qf123 a1 a2 a3 a4 a5 s = some (b, s2) ∧ s2 30 0 0 = 3))
def qo_op7 (R : qp_S → Prop) : Prop := ∀ (s : qp_S) (a1 a2 : Int32), R s → ∃ b s2, R s2 ∧ ((∃ q, qf44 a1 a2 s = some (.inr q) ∧ qf124 a1 a2 q.2 = some (b, s2) ∧ s2 30 0 0 = 0) ∨ (qf44 a1 a2 s = some (.inl 70) ∧ qf124 a1 a2 s = some (b, s2) ∧ s2 30 0 0 = 1) ∨ (qf44 a1 a2 s = some (.inl 72) ∧ qf124 a1 a2 s = some (b, s2) ∧ s2 30 0 0 = 2))
def qo_op8 (R : qp_S → Prop) : Prop := ∀ (s : qp_S) (a1 a2 : Int32), R s → ∃ b s2, R s2 ∧ ((∃ q, qf47 a1 a2 s = some (.inr q) ∧ qf126 a1 a2 q.2 = some (b, s2) ∧ s2 30 0 0 = 0) ∨ (qf47 a1 a2 s = some (.inl 70) ∧ qf126 a1 a2 s = some (b, s2) ∧ s2 30 0 0 = 1) ∨ (qf47 a1 a2 s = some (.inl 72) ∧ qf126 a1 a2 s = some (b, s2) ∧ s2 30 0 0 = 2))
def qo_op9 (R : qp_S → Prop) : Prop := ∀ (s : qp_S) , R s → ∃ b s2, R s2 ∧ ((∃ q, qf49  s = some (.inr q) ∧ qf127  q.2 = some (b, s2) ∧ s2 30 0 0 = 0 ∧ q.1 = b) ∨ (qf49  s = some (.inl 72) ∧ qf127  s = some (b, s2) ∧ s2 30 0 0 = 1))
def qo_op10 (R : qp_S → Prop) : Prop := ∀ (s : qp_S) (a1 a2 : Int32), R s → ∃ b s2, R s2 ∧ ((∃ q, qf92 a1 a2 s = some (.inr q) ∧ qf158 a1 a2 q.2 = some (b, s2) ∧ s2 30 0 0 = 0) ∨ (qf92 a1 a2 s = some (.inl 70) ∧ qf158 a1 a2 s = some (b, s2) ∧ s2 30 0 0 = 1))
def qo_op11 (R : qp_S → Prop) : Prop := ∀ (s : qp_S) (a1 : Int32), R s → ∃ b s2, R s2 ∧ ((∃ q, qf94 a1 s = some (.inr q) ∧ qf159 a1 q.2 = some (b, s2) ∧ s2 30 0 0 = 0 ∧ qm_cmp .eq q.1 0 = qm_cmp .eq b 0) ∨ (qf94 a1 s = some (.inl 70) ∧ qf159 a1 s = some (b, s2) ∧ s2 30 0 0 = 1))
def qo_op12 (R : qp_S → Prop) : Prop := ∀ (s : qp_S) (a1 : Int32), R s → ∃ b s2, R s2 ∧ ((∃ q, qf105 a1 s = some (.inr q) ∧ qf161 a1 q.2 = some (b, s2) ∧ s2 30 0 0 = 0 ∧ q.1 = b) ∨ (qf105 a1 s = some (.inl 71) ∧ qf161 a1 s = some (b, s2) ∧ s2 30 0 0 = 1) ∨ (qf105 a1 s = some (.inl 72) ∧ qf161 a1 s = some (b, s2) ∧ s2 30 0 0 = 2))
def qo_op13 (R : qp_S → Prop) : Prop := ∀ (s : qp_S) , R s → ∃ b s2, R s2 ∧ ((∃ q, qf109  s = some (.inr q) ∧ qf163  q.2 = some (b, s2) ∧ s2 30 0 0 = 0 ∧ q.1 = b) ∨ (qf109  s = some (.inl 72) ∧ qf163  s = some (b, s2) ∧ s2 30 0 0 = 1))
def qo_op14 (R : qp_S → Prop) : Prop := ∀ (s : qp_S) (a1 : Int32), R s → ∃ b s2, R s2 ∧ ((∃ q, qf112 a1 s = some (.inr q) ∧ qf164 a1 s = some (b, s2) ∧ s2 30 0 0 = 0 ∧ q = b) ∨ (qf112 a1 s = some (.inl 70) ∧ qf164 a1 s = some (b, s2) ∧ s2 30 0 0 = 1))
def qo_op15 (R : qp_S → Prop) : Prop := ∀ (s : qp_S) (a1 a2 : Int32), R s → ∃ b s2, R s2 ∧ qf12 a1 a2 s = some b ∧ qf165 a1 a2 s = some (b, s2)
def qo_op16 (R : qp_S → Prop) : Prop := ∀ (s : qp_S) (a1 : Int32), R s → ∃ b s2, R s2 ∧ qf14 a1 s = some b ∧ qf166 a1 s = some (b, s2)
def qo_op17 (R : qp_S → Prop) : Prop := ∀ (s : qp_S) (a1 a2 : Int32), R s → ∃ b s2, R s2 ∧ qf17 a1 a2 s = some b ∧ qf167 a1 a2 s = some (b, s2)
def qo_op18 (R : qp_S → Prop) : Prop := ∀ (s : qp_S) (a1 a2 : Int32), R s → ∃ b s2, R s2 ∧ qf20 a1 a2 s = some b ∧ qf168 a1 a2 s = some (b, s2)
def qo_all (R : qp_S → Prop) : Prop := qo_op0 R ∧ qo_op1 R ∧ qo_op2 R ∧ qo_op3 R ∧ qo_op4 R ∧ qo_op5 R ∧ qo_op6 R ∧ qo_op7 R ∧ qo_op8 R ∧ qo_op9 R ∧ qo_op10 R ∧ qo_op11 R ∧ qo_op12 R ∧ qo_op13 R ∧ qo_op14 R ∧ qo_op15 R ∧ qo_op16 R ∧ qo_op17 R ∧ qo_op18 R
theorem qt0 {L : Nat} {xs : Nat → Int32} {x : Int64} {e : Nat → Nat} {s : qp_S} {c1 c2 : Nat} {i : Int32} {m : Nat} {R : qp_S → Prop} (hg : qm_cmp .gt i (Int32.ofNat L - 6) = false) (h0 : qm_inb i L = true) (h1 : qm_inb (i + 1) L = true) (h2 : qm_inb (i + 2) L = true) (h3 : qm_inb (i + 3) L = true) (h4 : qm_inb (i + 4) L = true) (h5 : qm_inb (i + 5) L = true) (hR : R s) (IH : ∀ (s2 : qp_S) (x2 : Int64) (e2 : Nat → Nat) (k1 k2 : Nat), R s2 → ∃ (h' : qm_H) (c' : qm_C), (∀ u5 u6, qm_E (qz_ro L xs) 12 169 (23, ql_L (i + 6) u5 u6, [], qp_H s2 x2 e2, (k1, k2)) (.inl (some (vI 1)), h', c')) ∧ c'.1 ≤ k1 + m ∧ c'.2 ≤ k2 + 6 * m) (H : qo_op0 R) (hsw : decide ((xs i.toNatClampNeg &&& 31) = 0) = true) : ∃ (h' : qm_H) (c' : qm_C), (∀ u5 u6, qm_E (qz_ro L xs) 12 169 (23, ql_L i u5 u6, [], qp_H s x e, (c1, c2)) (.inl (some (vI 1)), h', c')) ∧ c'.1 ≤ c1 + 1 + m ∧ c'.2 ≤ c2 + 6 + 6 * m := by
  obtain ⟨b, s2, hR2, hh⟩ := H s (xs (i + 1).toNatClampNeg) (xs (i + 2).toNatClampNeg) hR
  rcases hh with ⟨q, hy, hz, ht⟩ | ⟨hy, hz, ht⟩ | ⟨hy, hz, ht⟩ | ⟨hy, hz, ht⟩
  · obtain ⟨h', c', hk, hc1, hc2⟩ := IH s2 x e (c1 + 0) (c2 + 6 * 0) hR2
    exact ⟨h', c', fun _ _ => ql0 hg h0 hsw h1 h2 (n := 0) (qw22 3 hy) hz ht  hk, by omega, by omega⟩
  · obtain ⟨h', c', hk, hc1, hc2⟩ := IH s2 x (qp_bump e 70) (c1 + 1) (c2 + 6 * 1) hR2
    exact ⟨h', c', fun _ _ => ql0 hg h0 hsw h1 h2 (n := 1) (qw22_70 3 hy) hz ht  hk, by omega, by omega⟩
  · obtain ⟨h', c', hk, hc1, hc2⟩ := IH s2 x (qp_bump e 71) (c1 + 1) (c2 + 6 * 1) hR2
    exact ⟨h', c', fun _ _ => ql0 hg h0 hsw h1 h2 (n := 1) (qw22_71 3 hy) hz ht  hk, by omega, by omega⟩
  · obtain ⟨h', c', hk, hc1, hc2⟩ := IH s2 x (qp_bump e 72) (c1 + 1) (c2 + 6 * 1) hR2
    exact ⟨h', c', fun _ _ => ql0 hg h0 hsw h1 h2 (n := 1) (qw22_72 3 hy) hz ht  hk, by omega, by omega⟩
theorem qt1 {L : Nat} {xs : Nat → Int32} {x : Int64} {e : Nat → Nat} {s : qp_S} {c1 c2 : Nat} {i : Int32} {m : Nat} {R : qp_S → Prop} (hg : qm_cmp .gt i (Int32.ofNat L - 6) = false) (h0 : qm_inb i L = true) (h1 : qm_inb (i + 1) L = true) (h2 : qm_inb (i + 2) L = true) (h3 : qm_inb (i + 3) L = true) (h4 : qm_inb (i + 4) L = true) (h5 : qm_inb (i + 5) L = true) (hR : R s) (IH : ∀ (s2 : qp_S) (x2 : Int64) (e2 : Nat → Nat) (k1 k2 : Nat), R s2 → ∃ (h' : qm_H) (c' : qm_C), (∀ u5 u6, qm_E (qz_ro L xs) 12 169 (23, ql_L (i + 6) u5 u6, [], qp_H s2 x2 e2, (k1, k2)) (.inl (some (vI 1)), h', c')) ∧ c'.1 ≤ k1 + m ∧ c'.2 ≤ k2 + 6 * m) (H : qo_op1 R) (hsw : decide ((xs i.toNatClampNeg &&& 31) = 1) = true) : ∃ (h' : qm_H) (c' : qm_C), (∀ u5 u6, qm_E (qz_ro L xs) 12 169 (23, ql_L i u5 u6, [], qp_H s x e, (c1, c2)) (.inl (some (vI 1)), h', c')) ∧ c'.1 ≤ c1 + 1 + m ∧ c'.2 ≤ c2 + 6 + 6 * m := by
  obtain ⟨b, s2, hR2, hh⟩ := H s (xs (i + 1).toNatClampNeg) (xs (i + 2).toNatClampNeg) hR
  rcases hh with ⟨q, hy, hz, ht, hv⟩ | ⟨hy, hz, ht⟩ | ⟨hy, hz, ht⟩ | ⟨hy, hz, ht⟩
  · obtain ⟨h', c', hk, hc1, hc2⟩ := IH s2 (q.1).toInt64 e (c1 + 0) (c2 + 6 * 0) hR2
    exact ⟨h', c', fun _ _ => ql1 hg h0 hsw h1 h2 (n := 0) (qw27 3 hy) hz ht (fun _ => by rw [hv]) hk, by omega, by omega⟩
  · obtain ⟨h', c', hk, hc1, hc2⟩ := IH s2 x (qp_bump e 70) (c1 + 1) (c2 + 6 * 1) hR2
    exact ⟨h', c', fun _ _ => ql1 hg h0 hsw h1 h2 (n := 1) (qw27_70 3 hy) hz ht (fun hv => absurd hv (by decide)) hk, by omega, by omega⟩
  · obtain ⟨h', c', hk, hc1, hc2⟩ := IH s2 x (qp_bump e 71) (c1 + 1) (c2 + 6 * 1) hR2
    exact ⟨h', c', fun _ _ => ql1 hg h0 hsw h1 h2 (n := 1) (qw27_71 3 hy) hz ht (fun hv => absurd hv (by decide)) hk, by omega, by omega⟩
  · obtain ⟨h', c', hk, hc1, hc2⟩ := IH s2 x (qp_bump e 72) (c1 + 1) (c2 + 6 * 1) hR2
    exact ⟨h', c', fun _ _ => ql1 hg h0 hsw h1 h2 (n := 1) (qw27_72 3 hy) hz ht (fun hv => absurd hv (by decide)) hk, by omega, by omega⟩
theorem qt2 {L : Nat} {xs : Nat → Int32} {x : Int64} {e : Nat → Nat} {s : qp_S} {c1 c2 : Nat} {i : Int32} {m : Nat} {R : qp_S → Prop} (hg : qm_cmp .gt i (Int32.ofNat L - 6) = false) (h0 : qm_inb i L = true) (h1 : qm_inb (i + 1) L = true) (h2 : qm_inb (i + 2) L = true) (h3 : qm_inb (i + 3) L = true) (h4 : qm_inb (i + 4) L = true) (h5 : qm_inb (i + 5) L = true) (hR : R s) (IH : ∀ (s2 : qp_S) (x2 : Int64) (e2 : Nat → Nat) (k1 k2 : Nat), R s2 → ∃ (h' : qm_H) (c' : qm_C), (∀ u5 u6, qm_E (qz_ro L xs) 12 169 (23, ql_L (i + 6) u5 u6, [], qp_H s2 x2 e2, (k1, k2)) (.inl (some (vI 1)), h', c')) ∧ c'.1 ≤ k1 + m ∧ c'.2 ≤ k2 + 6 * m) (H : qo_op2 R) (hsw : decide ((xs i.toNatClampNeg &&& 31) = 2) = true) : ∃ (h' : qm_H) (c' : qm_C), (∀ u5 u6, qm_E (qz_ro L xs) 12 169 (23, ql_L i u5 u6, [], qp_H s x e, (c1, c2)) (.inl (some (vI 1)), h', c')) ∧ c'.1 ≤ c1 + 1 + m ∧ c'.2 ≤ c2 + 6 + 6 * m := by
  obtain ⟨b, s2, hR2, hh⟩ := H s (xs (i + 1).toNatClampNeg) (xs (i + 2).toNatClampNeg) (xs (i + 3).toNatClampNeg) (xs (i + 4).toNatClampNeg) hR
  rcases hh with ⟨q, hy, hz, ht⟩ | ⟨hy, hz, ht⟩ | ⟨hy, hz, ht⟩ | ⟨hy, hz, ht⟩
  · obtain ⟨h', c', hk, hc1, hc2⟩ := IH s2 x e (c1 + 0) (c2 + 6 * 0) hR2
    exact ⟨h', c', fun _ _ => ql2 hg h0 hsw h1 h2 h3 h4 (n := 0) (qw30 3 hy) hz ht  hk, by omega, by omega⟩
  · obtain ⟨h', c', hk, hc1, hc2⟩ := IH s2 x (qp_bump e 70) (c1 + 1) (c2 + 6 * 1) hR2
    exact ⟨h', c', fun _ _ => ql2 hg h0 hsw h1 h2 h3 h4 (n := 1) (qw30_70 3 hy) hz ht  hk, by omega, by omega⟩
  · obtain ⟨h', c', hk, hc1, hc2⟩ := IH s2 x (qp_bump e 71) (c1 + 1) (c2 + 6 * 1) hR2
    exact ⟨h', c', fun _ _ => ql2 hg h0 hsw h1 h2 h3 h4 (n := 1) (qw30_71 3 hy) hz ht  hk, by omega, by omega⟩
  · obtain ⟨h', c', hk, hc1, hc2⟩ := IH s2 x (qp_bump e 72) (c1 + 1) (c2 + 6 * 1) hR2
    exact ⟨h', c', fun _ _ => ql2 hg h0 hsw h1 h2 h3 h4 (n := 1) (qw30_72 3 hy) hz ht  hk, by omega, by omega⟩
theorem qt3 {L : Nat} {xs : Nat → Int32} {x : Int64} {e : Nat → Nat} {s : qp_S} {c1 c2 : Nat} {i : Int32} {m : Nat} {R : qp_S → Prop} (hg : qm_cmp .gt i (Int32.ofNat L - 6) = false) (h0 : qm_inb i L = true) (h1 : qm_inb (i + 1) L = true) (h2 : qm_inb (i + 2) L = true) (h3 : qm_inb (i + 3) L = true) (h4 : qm_inb (i + 4) L = true) (h5 : qm_inb (i + 5) L = true) (hR : R s) (IH : ∀ (s2 : qp_S) (x2 : Int64) (e2 : Nat → Nat) (k1 k2 : Nat), R s2 → ∃ (h' : qm_H) (c' : qm_C), (∀ u5 u6, qm_E (qz_ro L xs) 12 169 (23, ql_L (i + 6) u5 u6, [], qp_H s2 x2 e2, (k1, k2)) (.inl (some (vI 1)), h', c')) ∧ c'.1 ≤ k1 + m ∧ c'.2 ≤ k2 + 6 * m) (H : qo_op3 R) (hsw : decide ((xs i.toNatClampNeg &&& 31) = 3) = true) : ∃ (h' : qm_H) (c' : qm_C), (∀ u5 u6, qm_E (qz_ro L xs) 12 169 (23, ql_L i u5 u6, [], qp_H s x e, (c1, c2)) (.inl (some (vI 1)), h', c')) ∧ c'.1 ≤ c1 + 1 + m ∧ c'.2 ≤ c2 + 6 + 6 * m := by
  obtain ⟨b, s2, hR2, hh⟩ := H s (xs (i + 1).toNatClampNeg) (xs (i + 2).toNatClampNeg) (xs (i + 3).toNatClampNeg) (xs (i + 4).toNatClampNeg) hR
  rcases hh with ⟨q, hy, hz, ht⟩ | ⟨hy, hz, ht⟩ | ⟨hy, hz, ht⟩ | ⟨hy, hz, ht⟩
  · obtain ⟨h', c', hk, hc1, hc2⟩ := IH s2 x e (c1 + 0) (c2 + 6 * 0) hR2
    exact ⟨h', c', fun _ _ => ql3 hg h0 hsw h1 h2 h3 h4 (n := 0) (qw32 3 hy) hz ht  hk, by omega, by omega⟩
  · obtain ⟨h', c', hk, hc1, hc2⟩ := IH s2 x (qp_bump e 70) (c1 + 1) (c2 + 6 * 1) hR2
    exact ⟨h', c', fun _ _ => ql3 hg h0 hsw h1 h2 h3 h4 (n := 1) (qw32_70 3 hy) hz ht  hk, by omega, by omega⟩
  · obtain ⟨h', c', hk, hc1, hc2⟩ := IH s2 x (qp_bump e 71) (c1 + 1) (c2 + 6 * 1) hR2
    exact ⟨h', c', fun _ _ => ql3 hg h0 hsw h1 h2 h3 h4 (n := 1) (qw32_71 3 hy) hz ht  hk, by omega, by omega⟩
  · obtain ⟨h', c', hk, hc1, hc2⟩ := IH s2 x (qp_bump e 72) (c1 + 1) (c2 + 6 * 1) hR2
    exact ⟨h', c', fun _ _ => ql3 hg h0 hsw h1 h2 h3 h4 (n := 1) (qw32_72 3 hy) hz ht  hk, by omega, by omega⟩
theorem qt4 {L : Nat} {xs : Nat → Int32} {x : Int64} {e : Nat → Nat} {s : qp_S} {c1 c2 : Nat} {i : Int32} {m : Nat} {R : qp_S → Prop} (hg : qm_cmp .gt i (Int32.ofNat L - 6) = false) (h0 : qm_inb i L = true) (h1 : qm_inb (i + 1) L = true) (h2 : qm_inb (i + 2) L = true) (h3 : qm_inb (i + 3) L = true) (h4 : qm_inb (i + 4) L = true) (h5 : qm_inb (i + 5) L = true) (hR : R s) (IH : ∀ (s2 : qp_S) (x2 : Int64) (e2 : Nat → Nat) (k1 k2 : Nat), R s2 → ∃ (h' : qm_H) (c' : qm_C), (∀ u5 u6, qm_E (qz_ro L xs) 12 169 (23, ql_L (i + 6) u5 u6, [], qp_H s2 x2 e2, (k1, k2)) (.inl (some (vI 1)), h', c')) ∧ c'.1 ≤ k1 + m ∧ c'.2 ≤ k2 + 6 * m) (H : qo_op4 R) (hsw : decide ((xs i.toNatClampNeg &&& 31) = 4) = true) : ∃ (h' : qm_H) (c' : qm_C), (∀ u5 u6, qm_E (qz_ro L xs) 12 169 (23, ql_L i u5 u6, [], qp_H s x e, (c1, c2)) (.inl (some (vI 1)), h', c')) ∧ c'.1 ≤ c1 + 1 + m ∧ c'.2 ≤ c2 + 6 + 6 * m := by
  obtain ⟨b, s2, hR2, hh⟩ := H s (xs (i + 1).toNatClampNeg) (xs (i + 2).toNatClampNeg) hR
  rcases hh with ⟨q, hy, hz, ht⟩ | ⟨hy, hz, ht⟩ | ⟨hy, hz, ht⟩ | ⟨hy, hz, ht⟩
  · obtain ⟨h', c', hk, hc1, hc2⟩ := IH s2 x e (c1 + 0) (c2 + 6 * 0) hR2
    exact ⟨h', c', fun _ _ => ql4 hg h0 hsw h1 h2 (n := 0) (qw35 3 hy) hz ht  hk, by omega, by omega⟩
  · obtain ⟨h', c', hk, hc1, hc2⟩ := IH s2 x (qp_bump e 70) (c1 + 1) (c2 + 6 * 1) hR2
    exact ⟨h', c', fun _ _ => ql4 hg h0 hsw h1 h2 (n := 1) (qw35_70 3 hy) hz ht  hk, by omega, by omega⟩
  · obtain ⟨h', c', hk, hc1, hc2⟩ := IH s2 x (qp_bump e 71) (c1 + 1) (c2 + 6 * 1) hR2
    exact ⟨h', c', fun _ _ => ql4 hg h0 hsw h1 h2 (n := 1) (qw35_71 3 hy) hz ht  hk, by omega, by omega⟩
  · obtain ⟨h', c', hk, hc1, hc2⟩ := IH s2 x (qp_bump e 72) (c1 + 1) (c2 + 6 * 1) hR2
    exact ⟨h', c', fun _ _ => ql4 hg h0 hsw h1 h2 (n := 1) (qw35_72 3 hy) hz ht  hk, by omega, by omega⟩
theorem qt5 {L : Nat} {xs : Nat → Int32} {x : Int64} {e : Nat → Nat} {s : qp_S} {c1 c2 : Nat} {i : Int32} {m : Nat} {R : qp_S → Prop} (hg : qm_cmp .gt i (Int32.ofNat L - 6) = false) (h0 : qm_inb i L = true) (h1 : qm_inb (i + 1) L = true) (h2 : qm_inb (i + 2) L = true) (h3 : qm_inb (i + 3) L = true) (h4 : qm_inb (i + 4) L = true) (h5 : qm_inb (i + 5) L = true) (hR : R s) (IH : ∀ (s2 : qp_S) (x2 : Int64) (e2 : Nat → Nat) (k1 k2 : Nat), R s2 → ∃ (h' : qm_H) (c' : qm_C), (∀ u5 u6, qm_E (qz_ro L xs) 12 169 (23, ql_L (i + 6) u5 u6, [], qp_H s2 x2 e2, (k1, k2)) (.inl (some (vI 1)), h', c')) ∧ c'.1 ≤ k1 + m ∧ c'.2 ≤ k2 + 6 * m) (H : qo_op5 R) (hsw : decide ((xs i.toNatClampNeg &&& 31) = 5) = true) : ∃ (h' : qm_H) (c' : qm_C), (∀ u5 u6, qm_E (qz_ro L xs) 12 169 (23, ql_L i u5 u6, [], qp_H s x e, (c1, c2)) (.inl (some (vI 1)), h', c')) ∧ c'.1 ≤ c1 + 1 + m ∧ c'.2 ≤ c2 + 6 + 6 * m := by
  obtain ⟨b, s2, hR2, hh⟩ := H s (xs (i + 1).toNatClampNeg) (xs (i + 2).toNatClampNeg) (xs (i + 3).toNatClampNeg) hR
  rcases hh with ⟨q, hy, hz, ht⟩ | ⟨hy, hz, ht⟩ | ⟨hy, hz, ht⟩ | ⟨hy, hz, ht⟩
  · obtain ⟨h', c', hk, hc1, hc2⟩ := IH s2 x e (c1 + 0) (c2 + 6 * 0) hR2
    exact ⟨h', c', fun _ _ => ql5 hg h0 hsw h1 h2 h3 (n := 0) (qw37 3 hy) hz ht  hk, by omega, by omega⟩
  · obtain ⟨h', c', hk, hc1, hc2⟩ := IH s2 x (qp_bump e 70) (c1 + 1) (c2 + 6 * 1) hR2
    exact ⟨h', c', fun _ _ => ql5 hg h0 hsw h1 h2 h3 (n := 1) (qw37_70 3 hy) hz ht  hk, by omega, by omega⟩
  · obtain ⟨h', c', hk, hc1, hc2⟩ := IH s2 x (qp_bump e 71) (c1 + 1) (c2 + 6 * 1) hR2
    exact ⟨h', c', fun _ _ => ql5 hg h0 hsw h1 h2 h3 (n := 1) (qw37_71 3 hy) hz ht  hk, by omega, by omega⟩
  · obtain ⟨h', c', hk, hc1, hc2⟩ := IH s2 x (qp_bump e 72) (c1 + 1) (c2 + 6 * 1) hR2
    exact ⟨h', c', fun _ _ => ql5 hg h0 hsw h1 h2 h3 (n := 1) (qw37_72 3 hy) hz ht  hk, by omega, by omega⟩
theorem qt6 {L : Nat} {xs : Nat → Int32} {x : Int64} {e : Nat → Nat} {s : qp_S} {c1 c2 : Nat} {i : Int32} {m : Nat} {R : qp_S → Prop} (hg : qm_cmp .gt i (Int32.ofNat L - 6) = false) (h0 : qm_inb i L = true) (h1 : qm_inb (i + 1) L = true) (h2 : qm_inb (i + 2) L = true) (h3 : qm_inb (i + 3) L = true) (h4 : qm_inb (i + 4) L = true) (h5 : qm_inb (i + 5) L = true) (hR : R s) (IH : ∀ (s2 : qp_S) (x2 : Int64) (e2 : Nat → Nat) (k1 k2 : Nat), R s2 → ∃ (h' : qm_H) (c' : qm_C), (∀ u5 u6, qm_E (qz_ro L xs) 12 169 (23, ql_L (i + 6) u5 u6, [], qp_H s2 x2 e2, (k1, k2)) (.inl (some (vI 1)), h', c')) ∧ c'.1 ≤ k1 + m ∧ c'.2 ≤ k2 + 6 * m) (H : qo_op6 R) (hsw : decide ((xs i.toNatClampNeg &&& 31) = 6) = true) : ∃ (h' : qm_H) (c' : qm_C), (∀ u5 u6, qm_E (qz_ro L xs) 12 169 (23, ql_L i u5 u6, [], qp_H s x e, (c1, c2)) (.inl (some (vI 1)), h', c')) ∧ c'.1 ≤ c1 + 1 + m ∧ c'.2 ≤ c2 + 6 + 6 * m := by
  obtain ⟨b, s2, hR2, hh⟩ := H s (xs (i + 1).toNatClampNeg) (xs (i + 2).toNatClampNeg) (xs (i + 3).toNatClampNeg) (xs (i + 4).toNatClampNeg) (xs (i + 5).toNatClampNeg) hR
  rcases hh with ⟨q, hy, hz, ht, hv⟩ | ⟨hy, hz, ht⟩ | ⟨hy, hz, ht⟩ | ⟨hy, hz, ht⟩
  · obtain ⟨h', c', hk, hc1, hc2⟩ := IH s2 (q.1).toInt64 e (c1 + 0) (c2 + 6 * 0) hR2
    exact ⟨h', c', fun _ _ => ql6 hg h0 hsw h1 h2 h3 h4 h5 (n := 0) (qw39 3 hy) hz ht (fun _ => by rw [hv]) hk, by omega, by omega⟩
  · obtain ⟨h', c', hk, hc1, hc2⟩ := IH s2 x (qp_bump e 70) (c1 + 1) (c2 + 6 * 1) hR2
    exact ⟨h', c', fun _ _ => ql6 hg h0 hsw h1 h2 h3 h4 h5 (n := 1) (qw39_70 3 hy) hz ht (fun hv => absurd hv (by decide)) hk, by omega, by omega⟩
  · obtain ⟨h', c', hk, hc1, hc2⟩ := IH s2 x (qp_bump e 71) (c1 + 1) (c2 + 6 * 1) hR2
    exact ⟨h', c', fun _ _ => ql6 hg h0 hsw h1 h2 h3 h4 h5 (n := 1) (qw39_71 3 hy) hz ht (fun hv => absurd hv (by decide)) hk, by omega, by omega⟩
  · obtain ⟨h', c', hk, hc1, hc2⟩ := IH s2 x (qp_bump e 72) (c1 + 1) (c2 + 6 * 1) hR2
    exact ⟨h', c', fun _ _ => ql6 hg h0 hsw h1 h2 h3 h4 h5 (n := 1) (qw39_72 3 hy) hz ht (fun hv => absurd hv (by decide)) hk, by omega, by omega⟩
theorem qt7 {L : Nat} {xs : Nat → Int32} {x : Int64} {e : Nat → Nat} {s : qp_S} {c1 c2 : Nat} {i : Int32} {m : Nat} {R : qp_S → Prop} (hg : qm_cmp .gt i (Int32.ofNat L - 6) = false) (h0 : qm_inb i L = true) (h1 : qm_inb (i + 1) L = true) (h2 : qm_inb (i + 2) L = true) (h3 : qm_inb (i + 3) L = true) (h4 : qm_inb (i + 4) L = true) (h5 : qm_inb (i + 5) L = true) (hR : R s) (IH : ∀ (s2 : qp_S) (x2 : Int64) (e2 : Nat → Nat) (k1 k2 : Nat), R s2 → ∃ (h' : qm_H) (c' : qm_C), (∀ u5 u6, qm_E (qz_ro L xs) 12 169 (23, ql_L (i + 6) u5 u6, [], qp_H s2 x2 e2, (k1, k2)) (.inl (some (vI 1)), h', c')) ∧ c'.1 ≤ k1 + m ∧ c'.2 ≤ k2 + 6 * m) (H : qo_op7 R) (hsw : decide ((xs i.toNatClampNeg &&& 31) = 7) = true) : ∃ (h' : qm_H) (c' : qm_C), (∀ u5 u6, qm_E (qz_ro L xs) 12 169 (23, ql_L i u5 u6, [], qp_H s x e, (c1, c2)) (.inl (some (vI 1)), h', c')) ∧ c'.1 ≤ c1 + 1 + m ∧ c'.2 ≤ c2 + 6 + 6 * m := by
  obtain ⟨b, s2, hR2, hh⟩ := H s (xs (i + 1).toNatClampNeg) (xs (i + 2).toNatClampNeg) hR
  rcases hh with ⟨q, hy, hz, ht⟩ | ⟨hy, hz, ht⟩ | ⟨hy, hz, ht⟩
  · obtain ⟨h', c', hk, hc1, hc2⟩ := IH s2 x e (c1 + 0) (c2 + 6 * 0) hR2
    exact ⟨h', c', fun _ _ => ql7 hg h0 hsw h1 h2 (n := 0) (qw43 2 hy) hz ht  hk, by omega, by omega⟩
  · obtain ⟨h', c', hk, hc1, hc2⟩ := IH s2 x (qp_bump e 70) (c1 + 1) (c2 + 6 * 1) hR2
    exact ⟨h', c', fun _ _ => ql7 hg h0 hsw h1 h2 (n := 1) (qw43_70 2 hy) hz ht  hk, by omega, by omega⟩
  · obtain ⟨h', c', hk, hc1, hc2⟩ := IH s2 x (qp_bump e 72) (c1 + 1) (c2 + 6 * 1) hR2
    exact ⟨h', c', fun _ _ => ql7 hg h0 hsw h1 h2 (n := 1) (qw43_72 2 hy) hz ht  hk, by omega, by omega⟩
theorem qt8 {L : Nat} {xs : Nat → Int32} {x : Int64} {e : Nat → Nat} {s : qp_S} {c1 c2 : Nat} {i : Int32} {m : Nat} {R : qp_S → Prop} (hg : qm_cmp .gt i (Int32.ofNat L - 6) = false) (h0 : qm_inb i L = true) (h1 : qm_inb (i + 1) L = true) (h2 : qm_inb (i + 2) L = true) (h3 : qm_inb (i + 3) L = true) (h4 : qm_inb (i + 4) L = true) (h5 : qm_inb (i + 5) L = true) (hR : R s) (IH : ∀ (s2 : qp_S) (x2 : Int64) (e2 : Nat → Nat) (k1 k2 : Nat), R s2 → ∃ (h' : qm_H) (c' : qm_C), (∀ u5 u6, qm_E (qz_ro L xs) 12 169 (23, ql_L (i + 6) u5 u6, [], qp_H s2 x2 e2, (k1, k2)) (.inl (some (vI 1)), h', c')) ∧ c'.1 ≤ k1 + m ∧ c'.2 ≤ k2 + 6 * m) (H : qo_op8 R) (hsw : decide ((xs i.toNatClampNeg &&& 31) = 8) = true) : ∃ (h' : qm_H) (c' : qm_C), (∀ u5 u6, qm_E (qz_ro L xs) 12 169 (23, ql_L i u5 u6, [], qp_H s x e, (c1, c2)) (.inl (some (vI 1)), h', c')) ∧ c'.1 ≤ c1 + 1 + m ∧ c'.2 ≤ c2 + 6 + 6 * m := by
  obtain ⟨b, s2, hR2, hh⟩ := H s (xs (i + 1).toNatClampNeg) (xs (i + 2).toNatClampNeg) hR
  rcases hh with ⟨q, hy, hz, ht⟩ | ⟨hy, hz, ht⟩ | ⟨hy, hz, ht⟩
  · obtain ⟨h', c', hk, hc1, hc2⟩ := IH s2 x e (c1 + 0) (c2 + 6 * 0) hR2
    exact ⟨h', c', fun _ _ => ql8 hg h0 hsw h1 h2 (n := 0) (qw46 2 hy) hz ht  hk, by omega, by omega⟩
  · obtain ⟨h', c', hk, hc1, hc2⟩ := IH s2 x (qp_bump e 70) (c1 + 1) (c2 + 6 * 1) hR2
    exact ⟨h', c', fun _ _ => ql8 hg h0 hsw h1 h2 (n := 1) (qw46_70 2 hy) hz ht  hk, by omega, by omega⟩
  · obtain ⟨h', c', hk, hc1, hc2⟩ := IH s2 x (qp_bump e 72) (c1 + 1) (c2 + 6 * 1) hR2
    exact ⟨h', c', fun _ _ => ql8 hg h0 hsw h1 h2 (n := 1) (qw46_72 2 hy) hz ht  hk, by omega, by omega⟩
theorem qt9 {L : Nat} {xs : Nat → Int32} {x : Int64} {e : Nat → Nat} {s : qp_S} {c1 c2 : Nat} {i : Int32} {m : Nat} {R : qp_S → Prop} (hg : qm_cmp .gt i (Int32.ofNat L - 6) = false) (h0 : qm_inb i L = true) (h1 : qm_inb (i + 1) L = true) (h2 : qm_inb (i + 2) L = true) (h3 : qm_inb (i + 3) L = true) (h4 : qm_inb (i + 4) L = true) (h5 : qm_inb (i + 5) L = true) (hR : R s) (IH : ∀ (s2 : qp_S) (x2 : Int64) (e2 : Nat → Nat) (k1 k2 : Nat), R s2 → ∃ (h' : qm_H) (c' : qm_C), (∀ u5 u6, qm_E (qz_ro L xs) 12 169 (23, ql_L (i + 6) u5 u6, [], qp_H s2 x2 e2, (k1, k2)) (.inl (some (vI 1)), h', c')) ∧ c'.1 ≤ k1 + m ∧ c'.2 ≤ k2 + 6 * m) (H : qo_op9 R) (hsw : decide ((xs i.toNatClampNeg &&& 31) = 9) = true) : ∃ (h' : qm_H) (c' : qm_C), (∀ u5 u6, qm_E (qz_ro L xs) 12 169 (23, ql_L i u5 u6, [], qp_H s x e, (c1, c2)) (.inl (some (vI 1)), h', c')) ∧ c'.1 ≤ c1 + 1 + m ∧ c'.2 ≤ c2 + 6 + 6 * m := by
  obtain ⟨b, s2, hR2, hh⟩ := H s  hR
  rcases hh with ⟨q, hy, hz, ht, hv⟩ | ⟨hy, hz, ht⟩
  · obtain ⟨h', c', hk, hc1, hc2⟩ := IH s2 (q.1).toInt64 e (c1 + 0) (c2 + 6 * 0) hR2
    exact ⟨h', c', fun _ _ => ql9 hg h0 hsw  (n := 0) (qw48 3 hy) hz ht (fun _ => by rw [hv]) hk, by omega, by omega⟩
  · obtain ⟨h', c', hk, hc1, hc2⟩ := IH s2 x (qp_bump e 72) (c1 + 1) (c2 + 6 * 1) hR2
    exact ⟨h', c', fun _ _ => ql9 hg h0 hsw  (n := 1) (qw48_72 3 hy) hz ht (fun hv => absurd hv (by decide)) hk, by omega, by omega⟩
theorem qt10 {L : Nat} {xs : Nat → Int32} {x : Int64} {e : Nat → Nat} {s : qp_S} {c1 c2 : Nat} {i : Int32} {m : Nat} {R : qp_S → Prop} (hg : qm_cmp .gt i (Int32.ofNat L - 6) = false) (h0 : qm_inb i L = true) (h1 : qm_inb (i + 1) L = true) (h2 : qm_inb (i + 2) L = true) (h3 : qm_inb (i + 3) L = true) (h4 : qm_inb (i + 4) L = true) (h5 : qm_inb (i + 5) L = true) (hR : R s) (IH : ∀ (s2 : qp_S) (x2 : Int64) (e2 : Nat → Nat) (k1 k2 : Nat), R s2 → ∃ (h' : qm_H) (c' : qm_C), (∀ u5 u6, qm_E (qz_ro L xs) 12 169 (23, ql_L (i + 6) u5 u6, [], qp_H s2 x2 e2, (k1, k2)) (.inl (some (vI 1)), h', c')) ∧ c'.1 ≤ k1 + m ∧ c'.2 ≤ k2 + 6 * m) (H : qo_op10 R) (hsw : decide ((xs i.toNatClampNeg &&& 31) = 10) = true) : ∃ (h' : qm_H) (c' : qm_C), (∀ u5 u6, qm_E (qz_ro L xs) 12 169 (23, ql_L i u5 u6, [], qp_H s x e, (c1, c2)) (.inl (some (vI 1)), h', c')) ∧ c'.1 ≤ c1 + 1 + m ∧ c'.2 ≤ c2 + 6 + 6 * m := by
  obtain ⟨b, s2, hR2, hh⟩ := H s (xs (i + 1).toNatClampNeg) (xs (i + 2).toNatClampNeg) hR
  rcases hh with ⟨q, hy, hz, ht⟩ | ⟨hy, hz, ht⟩
  · obtain ⟨h', c', hk, hc1, hc2⟩ := IH s2 x e (c1 + 0) (c2 + 6 * 0) hR2
    exact ⟨h', c', fun _ _ => ql10 hg h0 hsw h1 h2 (n := 0) (qw91 3 hy) hz ht  hk, by omega, by omega⟩
  · obtain ⟨h', c', hk, hc1, hc2⟩ := IH s2 x (qp_bump e 70) (c1 + 1) (c2 + 6 * 1) hR2
    exact ⟨h', c', fun _ _ => ql10 hg h0 hsw h1 h2 (n := 1) (qw91_70 3 hy) hz ht  hk, by omega, by omega⟩
theorem qt11 {L : Nat} {xs : Nat → Int32} {x : Int64} {e : Nat → Nat} {s : qp_S} {c1 c2 : Nat} {i : Int32} {m : Nat} {R : qp_S → Prop} (hg : qm_cmp .gt i (Int32.ofNat L - 6) = false) (h0 : qm_inb i L = true) (h1 : qm_inb (i + 1) L = true) (h2 : qm_inb (i + 2) L = true) (h3 : qm_inb (i + 3) L = true) (h4 : qm_inb (i + 4) L = true) (h5 : qm_inb (i + 5) L = true) (hR : R s) (IH : ∀ (s2 : qp_S) (x2 : Int64) (e2 : Nat → Nat) (k1 k2 : Nat), R s2 → ∃ (h' : qm_H) (c' : qm_C), (∀ u5 u6, qm_E (qz_ro L xs) 12 169 (23, ql_L (i + 6) u5 u6, [], qp_H s2 x2 e2, (k1, k2)) (.inl (some (vI 1)), h', c')) ∧ c'.1 ≤ k1 + m ∧ c'.2 ≤ k2 + 6 * m) (H : qo_op11 R) (hsw : decide ((xs i.toNatClampNeg &&& 31) = 11) = true) : ∃ (h' : qm_H) (c' : qm_C), (∀ u5 u6, qm_E (qz_ro L xs) 12 169 (23, ql_L i u5 u6, [], qp_H s x e, (c1, c2)) (.inl (some (vI 1)), h', c')) ∧ c'.1 ≤ c1 + 1 + m ∧ c'.2 ≤ c2 + 6 + 6 * m := by
  obtain ⟨b, s2, hR2, hh⟩ := H s (xs (i + 1).toNatClampNeg) hR
  rcases hh with ⟨q, hy, hz, ht, hv⟩ | ⟨hy, hz, ht⟩
  · obtain ⟨h', c', hk, hc1, hc2⟩ := IH s2 (bif qm_cmp .eq q.1 0 then 0 else 1) e (c1 + 0) (c2 + 6 * 0) hR2
    exact ⟨h', c', fun _ _ => ql11 hg h0 hsw h1 (n := 0) (qw93 3 hy) hz ht (fun _ => by rw [hv]) hk, by omega, by omega⟩
  · obtain ⟨h', c', hk, hc1, hc2⟩ := IH s2 x (qp_bump e 70) (c1 + 1) (c2 + 6 * 1) hR2
    exact ⟨h', c', fun _ _ => ql11 hg h0 hsw h1 (n := 1) (qw93_70 3 hy) hz ht (fun hv => absurd hv (by decide)) hk, by omega, by omega⟩
theorem qt12 {L : Nat} {xs : Nat → Int32} {x : Int64} {e : Nat → Nat} {s : qp_S} {c1 c2 : Nat} {i : Int32} {m : Nat} {R : qp_S → Prop} (hg : qm_cmp .gt i (Int32.ofNat L - 6) = false) (h0 : qm_inb i L = true) (h1 : qm_inb (i + 1) L = true) (h2 : qm_inb (i + 2) L = true) (h3 : qm_inb (i + 3) L = true) (h4 : qm_inb (i + 4) L = true) (h5 : qm_inb (i + 5) L = true) (hR : R s) (IH : ∀ (s2 : qp_S) (x2 : Int64) (e2 : Nat → Nat) (k1 k2 : Nat), R s2 → ∃ (h' : qm_H) (c' : qm_C), (∀ u5 u6, qm_E (qz_ro L xs) 12 169 (23, ql_L (i + 6) u5 u6, [], qp_H s2 x2 e2, (k1, k2)) (.inl (some (vI 1)), h', c')) ∧ c'.1 ≤ k1 + m ∧ c'.2 ≤ k2 + 6 * m) (H : qo_op12 R) (hsw : decide ((xs i.toNatClampNeg &&& 31) = 12) = true) : ∃ (h' : qm_H) (c' : qm_C), (∀ u5 u6, qm_E (qz_ro L xs) 12 169 (23, ql_L i u5 u6, [], qp_H s x e, (c1, c2)) (.inl (some (vI 1)), h', c')) ∧ c'.1 ≤ c1 + 1 + m ∧ c'.2 ≤ c2 + 6 + 6 * m := by
  obtain ⟨b, s2, hR2, hh⟩ := H s (xs (i + 1).toNatClampNeg) hR
  rcases hh with ⟨q, hy, hz, ht, hv⟩ | ⟨hy, hz, ht⟩ | ⟨hy, hz, ht⟩
  · obtain ⟨h', c', hk, hc1, hc2⟩ := IH s2 (q.1).toInt64 e (c1 + 0) (c2 + 6 * 0) hR2
    exact ⟨h', c', fun _ _ => ql12 hg h0 hsw h1 (n := 0) (qw104 3 hy) hz ht (fun _ => by rw [hv]) hk, by omega, by omega⟩
  · obtain ⟨h', c', hk, hc1, hc2⟩ := IH s2 x (qp_bump e 71) (c1 + 1) (c2 + 6 * 1) hR2
    exact ⟨h', c', fun _ _ => ql12 hg h0 hsw h1 (n := 1) (qw104_71 3 hy) hz ht (fun hv => absurd hv (by decide)) hk, by omega, by omega⟩
  · obtain ⟨h', c', hk, hc1, hc2⟩ := IH s2 x (qp_bump e 72) (c1 + 1) (c2 + 6 * 1) hR2
    exact ⟨h', c', fun _ _ => ql12 hg h0 hsw h1 (n := 1) (qw104_72 3 hy) hz ht (fun hv => absurd hv (by decide)) hk, by omega, by omega⟩
theorem qt13 {L : Nat} {xs : Nat → Int32} {x : Int64} {e : Nat → Nat} {s : qp_S} {c1 c2 : Nat} {i : Int32} {m : Nat} {R : qp_S → Prop} (hg : qm_cmp .gt i (Int32.ofNat L - 6) = false) (h0 : qm_inb i L = true) (h1 : qm_inb (i + 1) L = true) (h2 : qm_inb (i + 2) L = true) (h3 : qm_inb (i + 3) L = true) (h4 : qm_inb (i + 4) L = true) (h5 : qm_inb (i + 5) L = true) (hR : R s) (IH : ∀ (s2 : qp_S) (x2 : Int64) (e2 : Nat → Nat) (k1 k2 : Nat), R s2 → ∃ (h' : qm_H) (c' : qm_C), (∀ u5 u6, qm_E (qz_ro L xs) 12 169 (23, ql_L (i + 6) u5 u6, [], qp_H s2 x2 e2, (k1, k2)) (.inl (some (vI 1)), h', c')) ∧ c'.1 ≤ k1 + m ∧ c'.2 ≤ k2 + 6 * m) (H : qo_op13 R) (hsw : decide ((xs i.toNatClampNeg &&& 31) = 13) = true) : ∃ (h' : qm_H) (c' : qm_C), (∀ u5 u6, qm_E (qz_ro L xs) 12 169 (23, ql_L i u5 u6, [], qp_H s x e, (c1, c2)) (.inl (some (vI 1)), h', c')) ∧ c'.1 ≤ c1 + 1 + m ∧ c'.2 ≤ c2 + 6 + 6 * m := by
  obtain ⟨b, s2, hR2, hh⟩ := H s  hR
  rcases hh with ⟨q, hy, hz, ht, hv⟩ | ⟨hy, hz, ht⟩
  · obtain ⟨h', c', hk, hc1, hc2⟩ := IH s2 (q.1).toInt64 e (c1 + 0) (c2 + 6 * 0) hR2
    exact ⟨h', c', fun _ _ => ql13 hg h0 hsw  (n := 0) (qw108 3 hy) hz ht (fun _ => by rw [hv]) hk, by omega, by omega⟩
  · obtain ⟨h', c', hk, hc1, hc2⟩ := IH s2 x (qp_bump e 72) (c1 + 1) (c2 + 6 * 1) hR2
    exact ⟨h', c', fun _ _ => ql13 hg h0 hsw  (n := 1) (qw108_72 3 hy) hz ht (fun hv => absurd hv (by decide)) hk, by omega, by omega⟩
theorem qt14 {L : Nat} {xs : Nat → Int32} {x : Int64} {e : Nat → Nat} {s : qp_S} {c1 c2 : Nat} {i : Int32} {m : Nat} {R : qp_S → Prop} (hg : qm_cmp .gt i (Int32.ofNat L - 6) = false) (h0 : qm_inb i L = true) (h1 : qm_inb (i + 1) L = true) (h2 : qm_inb (i + 2) L = true) (h3 : qm_inb (i + 3) L = true) (h4 : qm_inb (i + 4) L = true) (h5 : qm_inb (i + 5) L = true) (hR : R s) (IH : ∀ (s2 : qp_S) (x2 : Int64) (e2 : Nat → Nat) (k1 k2 : Nat), R s2 → ∃ (h' : qm_H) (c' : qm_C), (∀ u5 u6, qm_E (qz_ro L xs) 12 169 (23, ql_L (i + 6) u5 u6, [], qp_H s2 x2 e2, (k1, k2)) (.inl (some (vI 1)), h', c')) ∧ c'.1 ≤ k1 + m ∧ c'.2 ≤ k2 + 6 * m) (H : qo_op14 R) (hsw : decide ((xs i.toNatClampNeg &&& 31) = 14) = true) : ∃ (h' : qm_H) (c' : qm_C), (∀ u5 u6, qm_E (qz_ro L xs) 12 169 (23, ql_L i u5 u6, [], qp_H s x e, (c1, c2)) (.inl (some (vI 1)), h', c')) ∧ c'.1 ≤ c1 + 1 + m ∧ c'.2 ≤ c2 + 6 + 6 * m := by
  obtain ⟨b, s2, hR2, hh⟩ := H s (xs (i + 1).toNatClampNeg) hR
  rcases hh with ⟨q, hy, hz, ht, hv⟩ | ⟨hy, hz, ht⟩
  · obtain ⟨h', c', hk, hc1, hc2⟩ := IH s2 (q).toInt64 e (c1 + 0) (c2 + 6 * 0) hR2
    exact ⟨h', c', fun _ _ => ql14 hg h0 hsw h1 (n := 0) (qw111 3 hy) hz ht (fun _ => by rw [hv]) hk, by omega, by omega⟩
  · obtain ⟨h', c', hk, hc1, hc2⟩ := IH s2 x (qp_bump e 70) (c1 + 1) (c2 + 6 * 1) hR2
    exact ⟨h', c', fun _ _ => ql14 hg h0 hsw h1 (n := 1) (qw111_70 3 hy) hz ht (fun hv => absurd hv (by decide)) hk, by omega, by omega⟩
theorem qt15 {L : Nat} {xs : Nat → Int32} {x : Int64} {e : Nat → Nat} {s : qp_S} {c1 c2 : Nat} {i : Int32} {m : Nat} {R : qp_S → Prop} (hg : qm_cmp .gt i (Int32.ofNat L - 6) = false) (h0 : qm_inb i L = true) (h1 : qm_inb (i + 1) L = true) (h2 : qm_inb (i + 2) L = true) (h3 : qm_inb (i + 3) L = true) (h4 : qm_inb (i + 4) L = true) (h5 : qm_inb (i + 5) L = true) (hR : R s) (IH : ∀ (s2 : qp_S) (x2 : Int64) (e2 : Nat → Nat) (k1 k2 : Nat), R s2 → ∃ (h' : qm_H) (c' : qm_C), (∀ u5 u6, qm_E (qz_ro L xs) 12 169 (23, ql_L (i + 6) u5 u6, [], qp_H s2 x2 e2, (k1, k2)) (.inl (some (vI 1)), h', c')) ∧ c'.1 ≤ k1 + m ∧ c'.2 ≤ k2 + 6 * m) (H : qo_op15 R) (hsw : decide ((xs i.toNatClampNeg &&& 31) = 15) = true) : ∃ (h' : qm_H) (c' : qm_C), (∀ u5 u6, qm_E (qz_ro L xs) 12 169 (23, ql_L i u5 u6, [], qp_H s x e, (c1, c2)) (.inl (some (vI 1)), h', c')) ∧ c'.1 ≤ c1 + 1 + m ∧ c'.2 ≤ c2 + 6 + 6 * m := by
  obtain ⟨b, s2, hR2, hy, hz⟩ := H s (xs (i + 1).toNatClampNeg) (xs (i + 2).toNatClampNeg) hR
  obtain ⟨h', c', hk, hc1, hc2⟩ := IH s2 x e c1 c2 hR2
  exact ⟨h', c', fun _ _ => ql15 hg h0 hsw h1 h2 hy hz hk, by omega, by omega⟩
theorem qt16 {L : Nat} {xs : Nat → Int32} {x : Int64} {e : Nat → Nat} {s : qp_S} {c1 c2 : Nat} {i : Int32} {m : Nat} {R : qp_S → Prop} (hg : qm_cmp .gt i (Int32.ofNat L - 6) = false) (h0 : qm_inb i L = true) (h1 : qm_inb (i + 1) L = true) (h2 : qm_inb (i + 2) L = true) (h3 : qm_inb (i + 3) L = true) (h4 : qm_inb (i + 4) L = true) (h5 : qm_inb (i + 5) L = true) (hR : R s) (IH : ∀ (s2 : qp_S) (x2 : Int64) (e2 : Nat → Nat) (k1 k2 : Nat), R s2 → ∃ (h' : qm_H) (c' : qm_C), (∀ u5 u6, qm_E (qz_ro L xs) 12 169 (23, ql_L (i + 6) u5 u6, [], qp_H s2 x2 e2, (k1, k2)) (.inl (some (vI 1)), h', c')) ∧ c'.1 ≤ k1 + m ∧ c'.2 ≤ k2 + 6 * m) (H : qo_op16 R) (hsw : decide ((xs i.toNatClampNeg &&& 31) = 16) = true) : ∃ (h' : qm_H) (c' : qm_C), (∀ u5 u6, qm_E (qz_ro L xs) 12 169 (23, ql_L i u5 u6, [], qp_H s x e, (c1, c2)) (.inl (some (vI 1)), h', c')) ∧ c'.1 ≤ c1 + 1 + m ∧ c'.2 ≤ c2 + 6 + 6 * m := by
  obtain ⟨b, s2, hR2, hy, hz⟩ := H s (xs (i + 1).toNatClampNeg) hR
  obtain ⟨h', c', hk, hc1, hc2⟩ := IH s2 x e c1 c2 hR2
  exact ⟨h', c', fun _ _ => ql16 hg h0 hsw h1 hy hz hk, by omega, by omega⟩
theorem qt17 {L : Nat} {xs : Nat → Int32} {x : Int64} {e : Nat → Nat} {s : qp_S} {c1 c2 : Nat} {i : Int32} {m : Nat} {R : qp_S → Prop} (hg : qm_cmp .gt i (Int32.ofNat L - 6) = false) (h0 : qm_inb i L = true) (h1 : qm_inb (i + 1) L = true) (h2 : qm_inb (i + 2) L = true) (h3 : qm_inb (i + 3) L = true) (h4 : qm_inb (i + 4) L = true) (h5 : qm_inb (i + 5) L = true) (hR : R s) (IH : ∀ (s2 : qp_S) (x2 : Int64) (e2 : Nat → Nat) (k1 k2 : Nat), R s2 → ∃ (h' : qm_H) (c' : qm_C), (∀ u5 u6, qm_E (qz_ro L xs) 12 169 (23, ql_L (i + 6) u5 u6, [], qp_H s2 x2 e2, (k1, k2)) (.inl (some (vI 1)), h', c')) ∧ c'.1 ≤ k1 + m ∧ c'.2 ≤ k2 + 6 * m) (H : qo_op17 R) (hsw : decide ((xs i.toNatClampNeg &&& 31) = 17) = true) : ∃ (h' : qm_H) (c' : qm_C), (∀ u5 u6, qm_E (qz_ro L xs) 12 169 (23, ql_L i u5 u6, [], qp_H s x e, (c1, c2)) (.inl (some (vI 1)), h', c')) ∧ c'.1 ≤ c1 + 1 + m ∧ c'.2 ≤ c2 + 6 + 6 * m := by
  obtain ⟨b, s2, hR2, hy, hz⟩ := H s (xs (i + 1).toNatClampNeg) (xs (i + 2).toNatClampNeg) hR
  obtain ⟨h', c', hk, hc1, hc2⟩ := IH s2 x e c1 c2 hR2
  exact ⟨h', c', fun _ _ => ql17 hg h0 hsw h1 h2 hy hz hk, by omega, by omega⟩
theorem qt18 {L : Nat} {xs : Nat → Int32} {x : Int64} {e : Nat → Nat} {s : qp_S} {c1 c2 : Nat} {i : Int32} {m : Nat} {R : qp_S → Prop} (hg : qm_cmp .gt i (Int32.ofNat L - 6) = false) (h0 : qm_inb i L = true) (h1 : qm_inb (i + 1) L = true) (h2 : qm_inb (i + 2) L = true) (h3 : qm_inb (i + 3) L = true) (h4 : qm_inb (i + 4) L = true) (h5 : qm_inb (i + 5) L = true) (hR : R s) (IH : ∀ (s2 : qp_S) (x2 : Int64) (e2 : Nat → Nat) (k1 k2 : Nat), R s2 → ∃ (h' : qm_H) (c' : qm_C), (∀ u5 u6, qm_E (qz_ro L xs) 12 169 (23, ql_L (i + 6) u5 u6, [], qp_H s2 x2 e2, (k1, k2)) (.inl (some (vI 1)), h', c')) ∧ c'.1 ≤ k1 + m ∧ c'.2 ≤ k2 + 6 * m) (H : qo_op18 R) (hsw : decide ((xs i.toNatClampNeg &&& 31) = 18) = true) : ∃ (h' : qm_H) (c' : qm_C), (∀ u5 u6, qm_E (qz_ro L xs) 12 169 (23, ql_L i u5 u6, [], qp_H s x e, (c1, c2)) (.inl (some (vI 1)), h', c')) ∧ c'.1 ≤ c1 + 1 + m ∧ c'.2 ≤ c2 + 6 + 6 * m := by
  obtain ⟨b, s2, hR2, hy, hz⟩ := H s (xs (i + 1).toNatClampNeg) (xs (i + 2).toNatClampNeg) hR
  obtain ⟨h', c', hk, hc1, hc2⟩ := IH s2 x e c1 c2 hR2
  exact ⟨h', c', fun _ _ => ql18 hg h0 hsw h1 h2 hy hz hk, by omega, by omega⟩
theorem qt_and (a : Int32) : 0 ≤ (a &&& 31).toInt ∧ (a &&& 31).toInt ≤ 31 := by
  have h : (a &&& 31).toBitVec = a.toBitVec &&& 31#32 := rfl
  have h1 : (a &&& 31).toInt = (a.toBitVec &&& 31#32).toInt := rfl
  have h2 : (a.toBitVec &&& 31#32).toNat ≤ 31 := by
    rw [BitVec.toNat_and]
    exact Nat.and_le_right
  rw [h1, BitVec.toInt_eq_toNat_of_lt (by omega)]
  omega
theorem qt_turn {L : Nat} {xs : Nat → Int32} {x : Int64} {e : Nat → Nat} {s : qp_S} {c1 c2 : Nat} {i : Int32} {m : Nat} {R : qp_S → Prop} (hg : qm_cmp .gt i (Int32.ofNat L - 6) = false) (h0 : qm_inb i L = true) (h1 : qm_inb (i + 1) L = true) (h2 : qm_inb (i + 2) L = true) (h3 : qm_inb (i + 3) L = true) (h4 : qm_inb (i + 4) L = true) (h5 : qm_inb (i + 5) L = true) (hR : R s) (IH : ∀ (s2 : qp_S) (x2 : Int64) (e2 : Nat → Nat) (k1 k2 : Nat), R s2 → ∃ (h' : qm_H) (c' : qm_C), (∀ u5 u6, qm_E (qz_ro L xs) 12 169 (23, ql_L (i + 6) u5 u6, [], qp_H s2 x2 e2, (k1, k2)) (.inl (some (vI 1)), h', c')) ∧ c'.1 ≤ k1 + m ∧ c'.2 ≤ k2 + 6 * m) (H : qo_all R) : ∃ (h' : qm_H) (c' : qm_C), (∀ u5 u6, qm_E (qz_ro L xs) 12 169 (23, ql_L i u5 u6, [], qp_H s x e, (c1, c2)) (.inl (some (vI 1)), h', c')) ∧ c'.1 ≤ c1 + 1 + m ∧ c'.2 ≤ c2 + 6 + 6 * m := by
  have hm : 0 ≤ (xs i.toNatClampNeg &&& 31).toInt ∧ (xs i.toNatClampNeg &&& 31).toInt ≤ 31 := qt_and _
  by_cases hd : decide ((xs i.toNatClampNeg &&& 31).toInt < 0 ∨ 18 < (xs i.toNatClampNeg &&& 31).toInt) = true
  · obtain ⟨h', c', hk, hc1, hc2⟩ := IH s x e c1 c2 hR
    exact ⟨h', c', fun _ _ => ql_none hg h0 hd hk, by omega, by omega⟩
  · have hd := of_decide_eq_false (Bool.eq_false_iff.mpr hd)
    have hw : ∀ v : Int32, (xs i.toNatClampNeg &&& 31).toInt = v.toInt → decide ((xs i.toNatClampNeg &&& 31) = v) = true := fun v hv => decide_eq_true (Int32.toInt_inj.mp hv)
    obtain ⟨H0, H1, H2, H3, H4, H5, H6, H7, H8, H9, H10, H11, H12, H13, H14, H15, H16, H17, H18⟩ := H
    have hc : (xs i.toNatClampNeg &&& 31).toInt = 0 ∨ (xs i.toNatClampNeg &&& 31).toInt = 1 ∨ (xs i.toNatClampNeg &&& 31).toInt = 2 ∨ (xs i.toNatClampNeg &&& 31).toInt = 3 ∨ (xs i.toNatClampNeg &&& 31).toInt = 4 ∨ (xs i.toNatClampNeg &&& 31).toInt = 5 ∨ (xs i.toNatClampNeg &&& 31).toInt = 6 ∨ (xs i.toNatClampNeg &&& 31).toInt = 7 ∨ (xs i.toNatClampNeg &&& 31).toInt = 8 ∨ (xs i.toNatClampNeg &&& 31).toInt = 9 ∨ (xs i.toNatClampNeg &&& 31).toInt = 10 ∨ (xs i.toNatClampNeg &&& 31).toInt = 11 ∨ (xs i.toNatClampNeg &&& 31).toInt = 12 ∨ (xs i.toNatClampNeg &&& 31).toInt = 13 ∨ (xs i.toNatClampNeg &&& 31).toInt = 14 ∨ (xs i.toNatClampNeg &&& 31).toInt = 15 ∨ (xs i.toNatClampNeg &&& 31).toInt = 16 ∨ (xs i.toNatClampNeg &&& 31).toInt = 17 ∨ (xs i.toNatClampNeg &&& 31).toInt = 18 := by omega
    rcases hc with hc | hc | hc | hc | hc | hc | hc | hc | hc | hc | hc | hc | hc | hc | hc | hc | hc | hc | hc
    · exact qt0 hg h0 h1 h2 h3 h4 h5 hR IH H0 (hw 0 hc)
    · exact qt1 hg h0 h1 h2 h3 h4 h5 hR IH H1 (hw 1 hc)
    · exact qt2 hg h0 h1 h2 h3 h4 h5 hR IH H2 (hw 2 hc)
    · exact qt3 hg h0 h1 h2 h3 h4 h5 hR IH H3 (hw 3 hc)
    · exact qt4 hg h0 h1 h2 h3 h4 h5 hR IH H4 (hw 4 hc)
    · exact qt5 hg h0 h1 h2 h3 h4 h5 hR IH H5 (hw 5 hc)
    · exact qt6 hg h0 h1 h2 h3 h4 h5 hR IH H6 (hw 6 hc)
    · exact qt7 hg h0 h1 h2 h3 h4 h5 hR IH H7 (hw 7 hc)
    · exact qt8 hg h0 h1 h2 h3 h4 h5 hR IH H8 (hw 8 hc)
    · exact qt9 hg h0 h1 h2 h3 h4 h5 hR IH H9 (hw 9 hc)
    · exact qt10 hg h0 h1 h2 h3 h4 h5 hR IH H10 (hw 10 hc)
    · exact qt11 hg h0 h1 h2 h3 h4 h5 hR IH H11 (hw 11 hc)
    · exact qt12 hg h0 h1 h2 h3 h4 h5 hR IH H12 (hw 12 hc)
    · exact qt13 hg h0 h1 h2 h3 h4 h5 hR IH H13 (hw 13 hc)
    · exact qt14 hg h0 h1 h2 h3 h4 h5 hR IH H14 (hw 14 hc)
    · exact qt15 hg h0 h1 h2 h3 h4 h5 hR IH H15 (hw 15 hc)
    · exact qt16 hg h0 h1 h2 h3 h4 h5 hR IH H16 (hw 16 hc)
    · exact qt17 hg h0 h1 h2 h3 h4 h5 hR IH H17 (hw 17 hc)
    · exact qt18 hg h0 h1 h2 h3 h4 h5 hR IH H18 (hw 18 hc)
