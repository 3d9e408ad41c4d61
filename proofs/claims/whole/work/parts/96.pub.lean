/-! an instant: jobs are published -/
theorem qv_loop4 {α β ρ σ : Type} (f : Nat → Nat → α → Option ρ) (g : Nat → Nat → β → Option σ) (N : Nat) (I : Nat → α → β → Prop)
    (hs : ∀ k x y, k < N → I k x y → ∃ x' y', (∀ n, f (n + 1) k x = f n (k + 1) x') ∧ (∀ n, g (n + 1) k y = g n (k + 1) y') ∧ I (k + 1) x' y') :
    ∀ d k n n' x y, k + d = N → d < n → d < n' → I k x y → ∃ x' y' m m', f n k x = f (m + 1) N x' ∧ g n' k y = g (m' + 1) N y' ∧ I N x' y' := by
  intro d
  induction d with
  | zero =>
    intro k n n' x y h1 h2 h3 hI
    obtain rfl : k = N := by omega
    exact ⟨x, y, n - 1, n' - 1, by rw [show n - 1 + 1 = n by omega], by rw [show n' - 1 + 1 = n' by omega], hI⟩
  | succ d ih =>
    intro k n n' x y h1 h2 h3 hI
    obtain ⟨x', y', e1, e2, hI'⟩ := hs k x y (by omega) hI
    obtain ⟨x2, y2, m, m', e3, e4, h4⟩ := ih (k + 1) (n - 1) (n' - 1) x' y' (by omega) (by omega) (by omega) hI'
    refine ⟨x2, y2, m, m', ?_, ?_, h4⟩
    · rw [← e3, ← e1, show n - 1 + 1 = n by omega]
    · rw [← e4, ← e2, show n' - 1 + 1 = n' by omega]
/-- all of a kind -/
def qp_k (s : qp_S) (k : Nat) (A : Nat → Nat → Int32) : qp_S := fun a => if a = k then A else s a
/-- all other kinds are as they were -/
def qfr (L : List Nat) (s s' : qp_S) : Prop := ∀ k, ¬ k ∈ L → s' k = s k
theorem qfr_r {L : List Nat} {s : qp_S} : qfr L s s := fun _ _ => rfl
theorem qfr_t {L : List Nat} {s s' s'' : qp_S} (h : qfr L s s') (h' : qfr L s' s'') : qfr L s s'' := fun k hk => (h' k hk).trans (h k hk)
theorem qfr_up {L : List Nat} {s s' : qp_S} {k i j : Nat} {v : Int32} (hk : k ∈ L) (h : qfr L s s') : qfr L s (qp_up s' k i j v) := by
  intro a ha
  rw [← h a ha]
  funext e f
  exact qu_pk (fun (g : a = k) => ha (by rw [g]; exact hk))
theorem qfr_k {L : List Nat} {s s' : qp_S} {k : Nat} {A : Nat → Nat → Int32} (hk : k ∈ L) (h : qfr L s s') : qfr L s (qp_k s' k A) := by
  intro a ha
  rw [← h a ha]
  exact if_neg (fun (g : a = k) => ha (by rw [g]; exact hk))
theorem qfr_m {L L' : List Nat} {s s' : qp_S} (hL : ∀ k, k ∈ L → k ∈ L') (h : qfr L s s') : qfr L' s s' := fun k hk => h k (fun g => hk (hL k g))
theorem qfr_x {s s' : qp_S} (h : qx_F s s') : qfr [30, 57, 58, 59] s s' := by
  intro k hk
  funext e f
  simp only [List.mem_cons, List.not_mem_nil, or_false] at hk
  exact h k e f (by omega) (by omega) (by omega) (by omega)
/-! what a port takes -/
theorem qb_max (a b : Int32) : (qm_max a b).toInt = max a.toInt b.toInt := by
  unfold qm_max
  by_cases h : a < b
  · rw [if_pos h]; rw [Int32.lt_iff_toInt_lt] at h; omega
  · rw [if_neg h]; rw [Int32.lt_iff_toInt_lt] at h; omega
theorem qb_min (a b : Int32) : (qm_min a b).toInt = min a.toInt b.toInt := by
  unfold qm_min
  by_cases h : b < a
  · rw [if_pos h]; rw [Int32.lt_iff_toInt_lt] at h; omega
  · rw [if_neg h]; rw [Int32.lt_iff_toInt_lt] at h; omega
theorem qb_153 {y : qp_S} {p : Nat} {v : Int32} (hp : p < 16) (h : (y 38 0 p).toInt ≤ (y 39 0 p).toInt) : qf153 (Int32.ofNat p) v y = some (qm_max (y 38 0 p) (qm_min (y 39 0 p) v)) := by
  have l0 : (0:Int32).toInt = 0 := rfl; have l1 : (1:Int32).toInt = 1 := rfl; have lm : (-1:Int32).toInt = -1 := rfl; have l3 : (3:Int32).toInt = 3 := rfl; have l4 : (4:Int32).toInt = 4 := rfl; have l5 : (5:Int32).toInt = 5 := rfl; have l6 : (6:Int32).toInt = 6 := rfl; have l7 : (7:Int32).toInt = 7 := rfl; have l8 : (8:Int32).toInt = 8 := rfl; have l15 : (15:Int32).toInt = 15 := rfl; have l16 : (16:Int32).toInt = 16 := rfl; have l32 : (32:Int32).toInt = 32 := rfl
  have tp := qv_tI p (by omega)
  have e : ∀ a b : Int32, a.toInt = b.toInt → a = b := fun a b h => Int32.toInt_inj.mp h
  have h1 := qb_max (y 38 0 p) (qm_min (y 39 0 p) v)
  have h2 := qb_min (y 39 0 p) v
  by_cases c1 : v.toInt < (y 38 0 p).toInt
  · simp (disch := first | omega | assumption | decide) only [qf153, qu_ltT, qu_ltF, qu_gtT, qu_gtF, qu_geT, qu_geF, qu_leT, qu_leF, qu_eqT, qu_eqF, qu_neT, qu_neF, qu_inT, qu_24T, qu_24F, qu_116T, qu_116F, qu_13T, qu_13F, qu_25T, qu_25F, qu_26T, qu_26F, qu_117a, qu_117b, qu_117c, qu_117d, qu_10F, qu_00T, qu_n10, qu_n00, Option.bind_some, cond_true, cond_false, if_true, qv_tN, qv_c6, qv_c4, qv_c8, qv_c32, qv_d4, qv_d16, qv_f4, qv_a1, qv_a2, qv_a3, qv_add, qv_inT]
    rw [e (qm_max (y 38 0 p) (qm_min (y 39 0 p) v)) (y 38 0 p) (by omega)]
  · by_cases c2 : (y 39 0 p).toInt < v.toInt
    · simp (disch := first | omega | assumption | decide) only [qf153, qu_ltT, qu_ltF, qu_gtT, qu_gtF, qu_geT, qu_geF, qu_leT, qu_leF, qu_eqT, qu_eqF, qu_neT, qu_neF, qu_inT, qu_24T, qu_24F, qu_116T, qu_116F, qu_13T, qu_13F, qu_25T, qu_25F, qu_26T, qu_26F, qu_117a, qu_117b, qu_117c, qu_117d, qu_10F, qu_00T, qu_n10, qu_n00, Option.bind_some, cond_true, cond_false, if_true, qv_tN, qv_c6, qv_c4, qv_c8, qv_c32, qv_d4, qv_d16, qv_f4, qv_a1, qv_a2, qv_a3, qv_add, qv_inT]
      rw [e (qm_max (y 38 0 p) (qm_min (y 39 0 p) v)) (y 39 0 p) (by omega)]
    · simp (disch := first | omega | assumption | decide) only [qf153, qu_ltT, qu_ltF, qu_gtT, qu_gtF, qu_geT, qu_geF, qu_leT, qu_leF, qu_eqT, qu_eqF, qu_neT, qu_neF, qu_inT, qu_24T, qu_24F, qu_116T, qu_116F, qu_13T, qu_13F, qu_25T, qu_25F, qu_26T, qu_26F, qu_117a, qu_117b, qu_117c, qu_117d, qu_10F, qu_00T, qu_n10, qu_n00, Option.bind_some, cond_true, cond_false, if_true, qv_tN, qv_c6, qv_c4, qv_c8, qv_c32, qv_d4, qv_d16, qv_f4, qv_a1, qv_a2, qv_a3, qv_add, qv_inT]
      rw [e (qm_max (y 38 0 p) (qm_min (y 39 0 p) v)) v (by omega)]
/-! an event -/
def qb_rw (A : Nat → Nat → Int32) (n : Nat) (v1 v2 v3 v4 : Int32) : Nat → Nat → Int32 := fun a b => if n < 300 ∧ a = 0 then (if b = 4 * n + 3 then v4 else if b = 4 * n + 2 then v3 else if b = 4 * n + 1 then v2 else if b = 4 * n then v1 else A a b) else A a b
theorem qb_rwk {s : qp_S} {k n : Nat} {v1 v2 v3 v4 : Int32} (h : n < 300) : qp_up (qp_up (qp_up (qp_up s k 0 (4 * n) v1) k 0 (4 * n + 1) v2) k 0 (4 * n + 2) v3) k 0 (4 * n + 3) v4 = qp_k s k (qb_rw (s k) n v1 v2 v3 v4) := by
  funext a b c
  unfold qp_k qb_rw
  by_cases e1 : a = k
  · subst e1
    rw [if_pos rfl]
    by_cases e2 : b = 0
    · subst e2
      rw [if_pos ⟨h, rfl⟩]
      unfold qp_up
      simp only [true_and]
    · rw [if_neg (fun g => e2 g.2)]
      rw [qu_pi e2, qu_pi e2, qu_pi e2, qu_pi e2]
  · rw [if_neg e1, qu_pk e1, qu_pk e1, qu_pk e1, qu_pk e1]
theorem qb_rwn {s : qp_S} {k n : Nat} {v1 v2 v3 v4 : Int32} (h : ¬ n < 300) : qp_k s k (qb_rw (s k) n v1 v2 v3 v4) = s := by
  funext a b c
  unfold qp_k qb_rw
  by_cases e1 : a = k
  · subst e1
    rw [if_pos rfl, if_neg (fun g => h g.1)]
  · rw [if_neg e1]
theorem qb_80 {x : qp_S} {n : Nat} {v1 v2 v3 : Int32} {o : Bool} (h : x 8 0 1 = Int32.ofNat n) (hn : n ≤ 100000000) : qf80 v1 v2 v3 (qv_b o) x = some (0, qp_up (qp_k x 9 (qb_rw (x 9) n v1 v2 v3 (qv_b o))) 8 0 1 (Int32.ofNat (n + 1))) := by
  have l0 : (0:Int32).toInt = 0 := rfl; have l1 : (1:Int32).toInt = 1 := rfl; have lm : (-1:Int32).toInt = -1 := rfl; have l3 : (3:Int32).toInt = 3 := rfl; have l4 : (4:Int32).toInt = 4 := rfl; have l5 : (5:Int32).toInt = 5 := rfl; have l6 : (6:Int32).toInt = 6 := rfl; have l7 : (7:Int32).toInt = 7 := rfl; have l8 : (8:Int32).toInt = 8 := rfl; have l15 : (15:Int32).toInt = 15 := rfl; have l16 : (16:Int32).toInt = 16 := rfl; have l32 : (32:Int32).toInt = 32 := rfl; have l300 : (300:Int32).toInt = 300 := rfl
  have tn := qv_tI n (by omega)
  by_cases c : n < 300
  · rw [← qb_rwk c]
    rw [show 4 * n = n * 4 by omega]
    cases o
    · simp (disch := first | omega | assumption | decide) only [qf80, h, qu_ltT, qu_ltF, qu_gtT, qu_gtF, qu_geT, qu_geF, qu_leT, qu_leF, qu_eqT, qu_eqF, qu_neT, qu_neF, qu_inT, qu_24T, qu_24F, qu_116T, qu_116F, qu_13T, qu_13F, qu_25T, qu_25F, qu_26T, qu_26F, qu_117a, qu_117b, qu_117c, qu_117d, qu_10F, qu_00T, qu_n10, qu_n00, Option.bind_some, cond_true, cond_false, if_true, qv_tN, qv_c6, qv_c4, qv_c8, qv_c32, qv_d4, qv_d16, qv_f4, qv_a1, qv_a2, qv_a3, qv_add, qv_inT, qv_eq0, Bool.not_false, qu_pk]
      rfl
    · simp (disch := first | omega | assumption | decide) only [qf80, h, qu_ltT, qu_ltF, qu_gtT, qu_gtF, qu_geT, qu_geF, qu_leT, qu_leF, qu_eqT, qu_eqF, qu_neT, qu_neF, qu_inT, qu_24T, qu_24F, qu_116T, qu_116F, qu_13T, qu_13F, qu_25T, qu_25F, qu_26T, qu_26F, qu_117a, qu_117b, qu_117c, qu_117d, qu_10F, qu_00T, qu_n10, qu_n00, Option.bind_some, cond_true, cond_false, if_true, qv_tN, qv_c6, qv_c4, qv_c8, qv_c32, qv_d4, qv_d16, qv_f4, qv_a1, qv_a2, qv_a3, qv_add, qv_inT, qv_eq0, Bool.not_true, qu_pk]
      rfl
  · rw [qb_rwn c]
    simp (disch := first | omega | assumption | decide) only [qf80, h, qu_ltT, qu_ltF, qu_gtT, qu_gtF, qu_geT, qu_geF, qu_leT, qu_leF, qu_eqT, qu_eqF, qu_neT, qu_neF, qu_inT, qu_24T, qu_24F, qu_116T, qu_116F, qu_13T, qu_13F, qu_25T, qu_25F, qu_26T, qu_26F, qu_117a, qu_117b, qu_117c, qu_117d, qu_10F, qu_00T, qu_n10, qu_n00, Option.bind_some, cond_true, cond_false, if_true, qv_tN, qv_c6, qv_c4, qv_c8, qv_c32, qv_d4, qv_d16, qv_f4, qv_a1, qv_a2, qv_a3, qv_add, qv_inT]
theorem qb_154 {y : qp_S} {n p : Nat} {o : Bool} (h : y 30 0 30 = Int32.ofNat n) (hn : n ≤ 100000000) (hp : p < 16) : qf154 (Int32.ofNat p) (qv_b o) y = some (0, qp_up (qp_k y 56 (qb_rw (y 56) n (y 30 0 21) (Int32.ofNat p) (y 40 0 p) (qv_b o))) 30 0 30 (Int32.ofNat (n + 1))) := by
  have l0 : (0:Int32).toInt = 0 := rfl; have l1 : (1:Int32).toInt = 1 := rfl; have lm : (-1:Int32).toInt = -1 := rfl; have l3 : (3:Int32).toInt = 3 := rfl; have l4 : (4:Int32).toInt = 4 := rfl; have l5 : (5:Int32).toInt = 5 := rfl; have l6 : (6:Int32).toInt = 6 := rfl; have l7 : (7:Int32).toInt = 7 := rfl; have l8 : (8:Int32).toInt = 8 := rfl; have l15 : (15:Int32).toInt = 15 := rfl; have l16 : (16:Int32).toInt = 16 := rfl; have l32 : (32:Int32).toInt = 32 := rfl; have l300 : (300:Int32).toInt = 300 := rfl
  have tn := qv_tI n (by omega)
  have tp := qv_tI p (by omega)
  by_cases c : n < 300
  · rw [← qb_rwk c]
    cases o
    · simp (disch := first | omega | assumption | decide) only [qf154, h, qu_ltT, qu_ltF, qu_gtT, qu_gtF, qu_geT, qu_geF, qu_leT, qu_leF, qu_eqT, qu_eqF, qu_neT, qu_neF, qu_inT, qu_24T, qu_24F, qu_116T, qu_116F, qu_13T, qu_13F, qu_25T, qu_25F, qu_26T, qu_26F, qu_117a, qu_117b, qu_117c, qu_117d, qu_10F, qu_00T, qu_n10, qu_n00, Option.bind_some, cond_true, cond_false, if_true, qv_tN, qv_c6, qv_c4, qv_c8, qv_c32, qv_d4, qv_d16, qv_f4, qv_a1, qv_a2, qv_a3, qv_add, qv_inT, qv_eq0, Bool.not_false, qu_pk]
      rfl
    · simp (disch := first | omega | assumption | decide) only [qf154, h, qu_ltT, qu_ltF, qu_gtT, qu_gtF, qu_geT, qu_geF, qu_leT, qu_leF, qu_eqT, qu_eqF, qu_neT, qu_neF, qu_inT, qu_24T, qu_24F, qu_116T, qu_116F, qu_13T, qu_13F, qu_25T, qu_25F, qu_26T, qu_26F, qu_117a, qu_117b, qu_117c, qu_117d, qu_10F, qu_00T, qu_n10, qu_n00, Option.bind_some, cond_true, cond_false, if_true, qv_tN, qv_c6, qv_c4, qv_c8, qv_c32, qv_d4, qv_d16, qv_f4, qv_a1, qv_a2, qv_a3, qv_add, qv_inT, qv_eq0, Bool.not_true, qu_pk]
      rfl
  · rw [qb_rwn c]
    simp (disch := first | omega | assumption | decide) only [qf154, h, qu_ltT, qu_ltF, qu_gtT, qu_gtF, qu_geT, qu_geF, qu_leT, qu_leF, qu_eqT, qu_eqF, qu_neT, qu_neF, qu_inT, qu_24T, qu_24F, qu_116T, qu_116F, qu_13T, qu_13F, qu_25T, qu_25F, qu_26T, qu_26F, qu_117a, qu_117b, qu_117c, qu_117d, qu_10F, qu_00T, qu_n10, qu_n00, Option.bind_some, cond_true, cond_false, if_true, qv_tN, qv_c6, qv_c4, qv_c8, qv_c32, qv_d4, qv_d16, qv_f4, qv_a1, qv_a2, qv_a3, qv_add, qv_inT]
/-! the relation within an instant: jobs are compared for the tasks in M -/
def qb (x y : qp_S) (T B c n : Nat) (M : Nat → Prop) : Prop := qa_B x y ∧ qa_W x y ∧ qa_S x y ∧ qa_P x y ∧ qa_M x y ∧ qa_G x y ∧ qa_D x y ∧ qa_E x y ∧ qa_K x y true T B c n ∧ (∀ i, i < 8 → M i → qa_J x y i) ∧ (T ≤ 1000000 ∧ B ≤ T ∧ c < 4 ∧ qa_ok y ∧ 0 < qN (y 41 0 c) ∧ y 30 0 0 = 0)
theorem qj_0c {y y' : qp_S} {t : Nat} (h1 : ∀ j, j < 4 → y' 37 0 (4 * t + j) = y 37 0 (4 * t + j)) (h2 : ∀ j, j < 6 → y' 36 0 (6 * t + j) = y 36 0 (6 * t + j)) : qj_0 y' t = qj_0 y t := by
  unfold qj_0
  have e1 : (fun j => if j < 4 then y' 37 0 (4 * t + j) else 0) = fun j => if j < 4 then y 37 0 (4 * t + j) else 0 := by
    funext j
    by_cases g : j < 4
    · rw [if_pos g, if_pos g, h1 j g]
    · rw [if_neg g, if_neg g]
  have e2 : (fun j => if j < 6 then y' 36 0 (6 * t + j) else 0) = fun j => if j < 6 then y 36 0 (6 * t + j) else 0 := by
    funext j
    by_cases g : j < 6
    · rw [if_pos g, if_pos g, h2 j g]
    · rw [if_neg g, if_neg g]
  rw [e1, e2]
/-- one slot is published -/
theorem qb_slot {x y : qp_S} {T B c n i j : Nat} {o : Bool} (h : qb x y T B c n (fun t => t ≠ i)) (hi : i < 8) (hj : j < 6) (hn : n ≤ 100000000) (hv : x 16 (6 * i + j) 2 = y 59 0 j) (ho1 : x 14 i 4 = qv_b o) (ho2 : y 55 0 i = qv_b o) : ∃ x' y' n', (∀ m, qf78_2 (m + 1) i (Int32.ofNat j) x = qf78_2 m i (Int32.ofNat (j + 1)) x') ∧ (∀ m, qf147_50 (m + 1) (Int32.ofNat i) (Int32.ofNat j) y = qf147_50 m (Int32.ofNat i) (Int32.ofNat (j + 1)) y') ∧ qb x' y' T B c n' (fun t => t ≠ i) ∧ n' ≤ n + 1 ∧ qfr [8, 9, 21] x x' ∧ qfr [30, 36, 40, 56] y y' ∧ y' 36 0 (6 * i + j) = y 59 0 j ∧ ∀ k, k ≠ 6 * i + j → y' 36 0 k = y 36 0 k := by
  have l0 : (0:Int32).toInt = 0 := rfl; have l1 : (1:Int32).toInt = 1 := rfl; have lm : (-1:Int32).toInt = -1 := rfl; have l3 : (3:Int32).toInt = 3 := rfl; have l4 : (4:Int32).toInt = 4 := rfl; have l5 : (5:Int32).toInt = 5 := rfl; have l6 : (6:Int32).toInt = 6 := rfl; have l7 : (7:Int32).toInt = 7 := rfl; have l8 : (8:Int32).toInt = 8 := rfl; have l15 : (15:Int32).toInt = 15 := rfl; have l16 : (16:Int32).toInt = 16 := rfl; have l32 : (32:Int32).toInt = 32 := rfl
  have ti := qv_tI i (by omega)
  have tj := qv_tI j (by omega)
  obtain ⟨hB, hW, hS, hP, hM, hG, hD, hE, hK, hJ, hZ⟩ := h
  obtain ⟨p, hp, ep⟩ := (hS.2.2.1 (6 * i + j) (by omega)).2
  have tp := qv_tI p (by omega)
  have ew := hS.1 (6 * i + j)
  have ep2 := (hS.2.1 (6 * i + j)).trans ep
  have hJt : ∀ (y' : qp_S), (∀ t, t < 8 → t ≠ i → qa_J x y t → qj_0 y' t = qj_0 y t → qa_J x y' t) → (∀ k, k ≠ 6 * i + j → y' 36 0 k = y 36 0 k) → (∀ k, y' 37 0 k = y 37 0 k) → ∀ t, t < 8 → t ≠ i → qa_J x y' t := by
    intro y' g1 g2 g3 t ht hti
    refine g1 t ht hti (hJ t ht hti) (qj_0c (fun l hl => g3 _) (fun l hl => g2 _ (by omega)))
  by_cases hw : y 34 0 (6 * i + j) = 1
  · have hcl := hP p
    obtain ⟨cl, hcl2⟩ : ∃ cl, cl = qm_max (y 38 0 p) (qm_min (y 39 0 p) (y 59 0 j)) := ⟨_, rfl⟩
    obtain ⟨k1, k2, k3, k4, k5, k6, k7, k8, k9, k10⟩ := hK
    have e80 := qb_80 (x := qp_up x 21 p 2 cl) (n := n) (v1 := Int32.ofNat T) (v2 := Int32.ofNat p) (v3 := cl) (o := o) k9 hn
    have e154 := qb_154 (y := qp_up (qp_up y 36 0 (6 * i + j) (y 59 0 j)) 40 0 p cl) (n := n) (p := p) (o := o) k10 hn hp
    have ey : (qp_up (qp_up y 36 0 (6 * i + j) (y 59 0 j)) 40 0 p cl) 40 0 p = cl := qu_ps
    have ey2 : (qp_up (qp_up y 36 0 (6 * i + j) (y 59 0 j)) 40 0 p cl) 30 0 21 = Int32.ofNat T := k4
    rw [ey, ey2] at e154
    refine ⟨qp_up (qp_k (qp_up x 21 p 2 cl) 9 (qb_rw (x 9) n (Int32.ofNat T) (Int32.ofNat p) cl (qv_b o))) 8 0 1 (Int32.ofNat (n + 1)), qp_up (qp_k (qp_up (qp_up y 36 0 (6 * i + j) (y 59 0 j)) 40 0 p cl) 56 (qb_rw (y 56) n (Int32.ofNat T) (Int32.ofNat p) cl (qv_b o))) 30 0 30 (Int32.ofNat (n + 1)), n + 1, fun m => ?_, fun m => ?_, ⟨hB, hW, hS, fun q => ?_, hM, hG, hD, fun k => ?_, ⟨k1, k2, k3, k4, k5, k6, k7, k8, rfl, rfl⟩, ?_, hZ⟩, by omega, ?_, ?_, ?_, fun k hk => ?_⟩
    · have hw2 : qm_cmp .ne (x 16 (6 * i + j) 0) 1 = false := by rw [ew, hw]; decide
      have e79 : qf79 p (x 16 (6 * i + j) 2) x = some (0, qp_up x 21 p 2 cl) := by
        unfold qf79; rw [hv, hcl.1, hcl.2.1, ← hcl2]
      have g1 : (qp_up x 21 p 2 cl) 1 0 9 = Int32.ofNat T := k3
      have g2 : (qp_up x 21 p 2 cl) 16 (6 * i + j) 1 = Int32.ofNat p := ep2
      have g3 : (qp_up x 21 p 2 cl) 21 p 2 = cl := qu_ps
      have g4 : (qp_up x 21 p 2 cl) 14 i 4 = qv_b o := ho1
      simp (disch := first | omega | assumption | decide) only [qf78_2, qv_g4, qv_g6, qv_g8, qv_g16, qv_g32, qv_g48, qv_e4, qv_e6, qv_e8, qv_e16, qv_e32, qv_e48, qv_inT, qv_tN, qv_s1, cond_false, cond_true, if_true, hw2, qu_ltT, qu_ltF, qu_gtT, qu_gtF, qu_geT, qu_geF, qu_leT, qu_leF, qu_eqT, qu_eqF, qu_neT, qu_neF, qu_inT, qu_24T, qu_24F, qu_116T, qu_116F, qu_13T, qu_13F, qu_25T, qu_25F, qu_26T, qu_26F, qu_117a, qu_117b, qu_117c, qu_117d, qu_10F, qu_00T, qu_n10, qu_n00, Option.bind_some, cond_true, cond_false, if_true, qv_tN, qv_c6, qv_c4, qv_c8, qv_c32, qv_d4, qv_d16, qv_f4, qv_a1, qv_a2, qv_a3, qv_add, qv_inT, ep2, e79, g1, g2, g3, g4, e80]
      rfl
    · have g0 : ∀ k, (qp_up y 36 0 (6 * i + j) (y 59 0 j)) 34 0 k = y 34 0 k := fun k => rfl
      have hw2 : qm_cmp .eq (y 34 0 (6 * i + j)) 1 = true := by rw [hw]; decide
      have g1 : (qp_up y 36 0 (6 * i + j) (y 59 0 j)) 35 0 (6 * i + j) = Int32.ofNat p := ep
      have g2 : (qp_up y 36 0 (6 * i + j) (y 59 0 j)) 59 0 j = y 59 0 j := rfl
      have g3 : qf153 (Int32.ofNat p) (y 59 0 j) (qp_up y 36 0 (6 * i + j) (y 59 0 j)) = some cl := by
        rw [hcl2]; exact qb_153 (y := qp_up y 36 0 (6 * i + j) (y 59 0 j)) hp hcl.2.2.2
      have g4 : (qp_up (qp_up y 36 0 (6 * i + j) (y 59 0 j)) 40 0 p cl) 35 0 (6 * i + j) = Int32.ofNat p := ep
      have g5 : (qp_up (qp_up y 36 0 (6 * i + j) (y 59 0 j)) 40 0 p cl) 55 0 i = qv_b o := ho2
      simp (disch := first | omega | assumption | decide) only [qf147_50, qv_g4, qv_g6, qv_g8, qv_g16, qv_g32, qv_g48, qv_e4, qv_e6, qv_e8, qv_e16, qv_e32, qv_e48, qv_inT, qv_tN, qv_s1, cond_false, cond_true, if_true, qu_ltT, qu_ltF, qu_gtT, qu_gtF, qu_geT, qu_geF, qu_leT, qu_leF, qu_eqT, qu_eqF, qu_neT, qu_neF, qu_inT, qu_24T, qu_24F, qu_116T, qu_116F, qu_13T, qu_13F, qu_25T, qu_25F, qu_26T, qu_26F, qu_117a, qu_117b, qu_117c, qu_117d, qu_10F, qu_00T, qu_n10, qu_n00, Option.bind_some, cond_true, cond_false, if_true, qv_tN, qv_c6, qv_c4, qv_c8, qv_c32, qv_d4, qv_d16, qv_f4, qv_a1, qv_a2, qv_a3, qv_add, qv_inT, g0, hw2, g1, g2, g3, g4, g5, e154]
      rfl
    · by_cases e : q = p
      · subst e
        exact ⟨(show (qp_up x 21 q 2 cl) 21 q 0 = y 38 0 q by rw [qu_pj (by decide)]; exact hcl.1), (show (qp_up x 21 q 2 cl) 21 q 1 = y 39 0 q by rw [qu_pj (by decide)]; exact hcl.2.1), (show (qp_up x 21 q 2 cl) 21 q 2 = (qp_up (qp_up y 36 0 (6 * i + j) (y 59 0 j)) 40 0 q cl) 40 0 q by rw [qu_ps, qu_ps]), hcl.2.2.2⟩
      · obtain ⟨g1, g2, g3, g4⟩ := hP q
        refine ⟨?_, ?_, ?_, g4⟩
        · show (qp_up x 21 p 2 cl) 21 q 0 = _
          rw [qu_pi e]; exact g1
        · show (qp_up x 21 p 2 cl) 21 q 1 = _
          rw [qu_pi e]; exact g2
        · show (qp_up x 21 p 2 cl) 21 q 2 = (qp_up (qp_up y 36 0 (6 * i + j) (y 59 0 j)) 40 0 p cl) 40 0 q
          rw [qu_pi e, qu_pj e]; exact g3
    · show qb_rw (x 9) n (Int32.ofNat T) (Int32.ofNat p) cl (qv_b o) 0 k = qb_rw (y 56) n (Int32.ofNat T) (Int32.ofNat p) cl (qv_b o) 0 k
      unfold qb_rw
      rw [hE k]
    · exact hJt _ (fun t ht hti g1 g2 => qa_Jy (y := y) rfl rfl rfl rfl rfl rfl rfl rfl g2 g1) (fun k hk => qu_pj hk) (fun k => rfl)
    · exact qfr_up (by decide) (qfr_k (by decide) (qfr_up (by decide) qfr_r))
    · exact qfr_up (by decide) (qfr_k (by decide) (qfr_up (by decide) (qfr_up (by decide) qfr_r)))
    · show (qp_up y 36 0 (6 * i + j) (y 59 0 j)) 36 0 (6 * i + j) = _
      exact qu_ps
    · show (qp_up y 36 0 (6 * i + j) (y 59 0 j)) 36 0 k = _
      exact qu_pj hk
  · refine ⟨x, qp_up y 36 0 (6 * i + j) (y 59 0 j), n, fun m => ?_, fun m => ?_, ⟨hB, hW, hS, hP, hM, hG, hD, hE, hK, ?_, hZ⟩, by omega, qfr_r, qfr_up (by decide) qfr_r, qu_ps, fun k hk => qu_pj hk⟩
    · have hw2 : qm_cmp .ne (x 16 (6 * i + j) 0) 1 = true := by rw [ew, qv_ne]; exact decide_eq_true hw
      simp (disch := first | omega | assumption | decide) only [qf78_2, qv_g4, qv_g6, qv_g8, qv_g16, qv_g32, qv_g48, qv_e4, qv_e6, qv_e8, qv_e16, qv_e32, qv_e48, qv_inT, qv_tN, qv_s1, cond_false, cond_true, if_true, hw2]
    · have hw2 : qm_cmp .eq ((qp_up y 36 0 (6 * i + j) (y 59 0 j)) 34 0 (6 * i + j)) 1 = false := by rw [qv_eq]; exact decide_eq_false hw
      simp (disch := first | omega | assumption | decide) only [qf147_50, qv_g4, qv_g6, qv_g8, qv_g16, qv_g32, qv_g48, qv_e4, qv_e6, qv_e8, qv_e16, qv_e32, qv_e48, qv_inT, qv_tN, qv_s1, cond_false, cond_true, if_true, qu_ltT, qu_ltF, qu_gtT, qu_gtF, qu_geT, qu_geF, qu_leT, qu_leF, qu_eqT, qu_eqF, qu_neT, qu_neF, qu_inT, qu_24T, qu_24F, qu_116T, qu_116F, qu_13T, qu_13F, qu_25T, qu_25F, qu_26T, qu_26F, qu_117a, qu_117b, qu_117c, qu_117d, qu_10F, qu_00T, qu_n10, qu_n00, Option.bind_some, cond_true, cond_false, if_true, qv_tN, qv_c6, qv_c4, qv_c8, qv_c32, qv_d4, qv_d16, qv_f4, qv_a1, qv_a2, qv_a3, qv_add, qv_inT, hw2]
    · exact hJt _ (fun t ht hti g1 g2 => qa_Jy (y := y) rfl rfl rfl rfl rfl rfl rfl rfl g2 g1) (fun k hk => qu_pj hk) (fun k => rfl)
