/-! the tasks' faults -/
def qh (x y : qp_S) : Prop := qa_W x y ∧ qa_S x y ∧ qa_M x y
def qh_x (x x' : qp_S) : qp_S := fun k => if k = 11 ∨ k = 12 ∨ k = 13 then x k else x' k
def qh_y (y y' : qp_S) : qp_S := fun k => if k = 60 then y k else y' k
theorem qh_xe {x x' : qp_S} (h : qfr [11, 12, 13] x x') : qh_x x x' = x := by
  funext k
  unfold qh_x
  by_cases g : k = 11 ∨ k = 12 ∨ k = 13
  · rw [if_pos g]
  · rw [if_neg g]; exact h k (by simp only [List.mem_cons, List.not_mem_nil, or_false]; exact g)
theorem qh_ye {y y' : qp_S} (h : qfr [60] y y') : qh_y y y' = y := by
  funext k
  unfold qh_y
  by_cases g : k = 60
  · rw [if_pos g]
  · rw [if_neg g]; exact h k (by simp only [List.mem_cons, List.not_mem_nil, or_false]; exact g)
theorem qh_c {x y x' y' : qp_S} (hx : qfr [11, 12, 13] x x') (hy : qfr [60] y y') (h : qh x y) : qh x' y' := by
  have : qh (qh_x x x') (qh_y y y') := by rw [qh_xe hx, qh_ye hy]; exact h
  exact this
theorem qh_qa {x y x' y' : qp_S} {r : Bool} {T B c n : Nat} (hx : qfr [11, 12, 13] x x') (hy : qfr [60] y y') (h : qa x y r T B c n) : qa x' y' r T B c n := by
  have : qa (qh_x x x') (qh_y y y') r T B c n := by rw [qh_xe hx, qh_ye hy]; exact h
  exact this
/-- the size and the words of a task -/
theorem qh_sz {x y : qp_S} {i : Nat} (h : qh x y) (hi : i < 8) : ∃ size, size ≤ 32 ∧ x 14 i 1 = Int32.ofNat size ∧ y 33 0 i = Int32.ofNat size ∧ qN (y 33 0 i) = size ∧ ∀ p, p < size → x 17 i p = qj_v y i p := by
  obtain ⟨⟨w1, w2, w3⟩, -, -⟩ := h
  obtain ⟨n, hn, en⟩ := w3 i hi
  refine ⟨n, hn, (w1 i).trans en, en, by rw [en]; exact qv_tN n (by omega), fun p hp => ?_⟩
  rw [w2 i p hi (by omega)]
  unfold qj_v; rw [if_pos (by omega)]
theorem qh_1 {y0 : qp_S} : ∀ d k n n' x y, k + d = 8 → d < n → d < n' → qh x y → qfr [60] y0 y → (∃ j x' y', j < 8 ∧ qf51_2 n (Int32.ofNat k) x = some (Int32.ofNat j, x') ∧ qf129_2 n' (Int32.ofNat k) y = some (Int32.ofNat (100 + j), y') ∧ qfr [11, 12, 13] x x' ∧ qfr [60] y0 y') ∨ ∃ x' y', qf51_2 n (Int32.ofNat k) x = some (-1, x') ∧ qf129_2 n' (Int32.ofNat k) y = qf129_37 4096 0 y' ∧ qfr [11, 12, 13] x x' ∧ qfr [60] y0 y' ∧ ∀ t, k ≤ t → t < 8 → qk_U y0 t → ∃ D, qk_V (qj_v y0 t) (qN (y0 33 0 t)) D := by
  intro d
  induction d with
  | zero =>
    intro k n n' x y h1 h2 h3 hq hF
    obtain ⟨n, rfl⟩ : ∃ z, n = z + 1 := ⟨n - 1, by omega⟩
    obtain ⟨n', rfl⟩ : ∃ z, n' = z + 1 := ⟨n' - 1, by omega⟩
    obtain rfl : k = 8 := by omega
    right
    refine ⟨x, y, ?_, ?_, qfr_r, hF, fun t g1 g2 => by omega⟩
    · unfold qf51_2
      rw [qv_e8, cond_true]
    · unfold qf129_2
      rw [qv_e8, cond_true]
  | succ d ih =>
    intro k n n' x y h1 h2 h3 hq hF
    obtain ⟨n, rfl⟩ : ∃ z, n = z + 1 := ⟨n - 1, by omega⟩
    obtain ⟨n', rfl⟩ : ∃ z, n' = z + 1 := ⟨n' - 1, by omega⟩
    have hk : k < 8 := by omega
    have hin8 : qm_inb (Int32.ofNat k) 8 = true := qv_inT k 8 hk (by decide)
    obtain ⟨b1, e52, hb1⟩ := qf_52 hq.2.2 hk
    obtain ⟨b2, e130, hb2⟩ := qf_130 hq.2.2 hk
    have hbb : b1 = b2 := by
      cases b1 <;> cases b2 <;> simp_all
    subst hbb
    have hU : qk_U y k ↔ qk_U y0 k := by unfold qk_U; rw [hF 41 (by decide), hF 42 (by decide)]
    have hvv : qj_v y k = qj_v y0 k := by unfold qj_v; rw [hF 32 (by decide)]
    have h33 : y 33 = y0 33 := hF 33 (by decide)
    unfold qf51_2 qf129_2
    rw [qv_g8 k hk, cond_false, cond_false, e52, Option.bind_some, e130, Option.bind_some, qv_eq0, qv_s1]
    cases b1 with
    | false =>
      rw [Bool.not_false, cond_true, cond_true]
      rcases ih (k + 1) n n' x y (by omega) (by omega) (by omega) hq hF with ⟨j, x', y', g1, g2, g3, g4, g5⟩ | ⟨x', y', g1, g2, g3, g4, g5⟩
      · exact Or.inl ⟨j, x', y', g1, g2, g3, g4, g5⟩
      · refine Or.inr ⟨x', y', g1, g2, g3, g4, fun t t1 t2 tu => ?_⟩
        by_cases e : t = k
        · subst e
          have := hb1.mpr (hU.mpr tu)
          cases this
        · exact g5 t (by omega) t2 tu
    | true =>
      rw [Bool.not_true, cond_false, cond_false, if_pos hin8, qv_tN k (by omega)]
      obtain ⟨size, s1, s2, s3, s4, s5⟩ := qh_sz hq hk
      obtain ⟨g, x1, c1, c2, c3, c4⟩ := qs_54 s1 s2 s5
      obtain ⟨g', y1, r1, r2, r3, r4⟩ := qcd_131 hk s1 s3
      have hgg : g = g' := by
        cases g with
        | false =>
          cases g' with
          | false => rfl
          | true => exact absurd ⟨_, (r4 rfl).2⟩ (c3 rfl)
        | true =>
          cases g' with
          | false => exact absurd ⟨_, (c4 rfl).2⟩ (r3 rfl)
          | true => rfl
      subst hgg
      rw [c1, Option.bind_some, r1, Option.bind_some]
      dsimp only
      rw [qv_ne0]
      cases g with
      | false =>
        left
        refine ⟨k, x1, y1, hk, rfl, ?_, c2, qfr_t hF r2⟩
        rw [cond_false, show (100 : Int32) = Int32.ofNat 100 from rfl, qv_add]
      | true =>
        rw [cond_true, cond_true]
        rcases ih (k + 1) n n' x1 y1 (by omega) (by omega) (by omega) (qh_c c2 r2 hq) (qfr_t hF r2) with ⟨j, x', y', g1, g2, g3, g4, g5⟩ | ⟨x', y', g1, g2, g3, g4, g5⟩
        · exact Or.inl ⟨j, x', y', g1, g2, g3, qfr_t c2 g4, g5⟩
        · refine Or.inr ⟨x', y', g1, g2, qfr_t c2 g3, g4, fun t t1 t2 tu => ?_⟩
          by_cases e : t = k
          · subst e
            have := (r4 rfl).2
            rw [← s4, hvv, h33] at this
            exact ⟨_, this⟩
          · exact g5 t (by omega) t2 tu
theorem qh_2 {y0 : qp_S} (hgood : ∀ t, t < 8 → qk_U y0 t → ∃ D, qk_V (qj_v y0 t) (qN (y0 33 0 t)) D) : ∀ d k n n' x y, k + d = 8 → d < n → d < n' → qh x y → qfr [60] y0 y → (∃ j x' y', j < 8 ∧ qf63_2 n (Int32.ofNat k) x = some (Int32.ofNat j, x') ∧ qf129_37 n' (Int32.ofNat k) y = some (Int32.ofNat (200 + j), y') ∧ qfr [11, 12, 13] x x' ∧ qfr [60] y0 y') ∨ ∃ x' y', qf63_2 n (Int32.ofNat k) x = some (-1, x') ∧ qf129_37 n' (Int32.ofNat k) y = some (0, y') ∧ qfr [11, 12, 13] x x' ∧ qfr [60] y0 y' ∧ ∀ t, k ≤ t → t < 8 → qk_U y0 t → qk_S y0 t := by
  intro d
  induction d with
  | zero =>
    intro k n n' x y h1 h2 h3 hq hF
    obtain ⟨n, rfl⟩ : ∃ z, n = z + 1 := ⟨n - 1, by omega⟩
    obtain ⟨n', rfl⟩ : ∃ z, n' = z + 1 := ⟨n' - 1, by omega⟩
    obtain rfl : k = 8 := by omega
    right
    refine ⟨x, y, ?_, ?_, qfr_r, hF, fun t g1 g2 => by omega⟩
    · unfold qf63_2
      rw [qv_e8, cond_true]
    · unfold qf129_37
      rw [qv_e8, cond_true]
  | succ d ih =>
    intro k n n' x y h1 h2 h3 hq hF
    obtain ⟨n, rfl⟩ : ∃ z, n = z + 1 := ⟨n - 1, by omega⟩
    obtain ⟨n', rfl⟩ : ∃ z, n' = z + 1 := ⟨n' - 1, by omega⟩
    have hk : k < 8 := by omega
    have hin8 : qm_inb (Int32.ofNat k) 8 = true := qv_inT k 8 hk (by decide)
    obtain ⟨b1, e52, hb1⟩ := qf_52 hq.2.2 hk
    obtain ⟨b2, e130, hb2⟩ := qf_130 hq.2.2 hk
    have hbb : b1 = b2 := by
      cases b1 <;> cases b2 <;> simp_all
    subst hbb
    have hU : qk_U y k ↔ qk_U y0 k := by unfold qk_U; rw [hF 41 (by decide), hF 42 (by decide)]
    have hvv : qj_v y k = qj_v y0 k := by unfold qj_v; rw [hF 32 (by decide)]
    have h33 : y 33 = y0 33 := hF 33 (by decide)
    have h34 : y 34 = y0 34 := hF 34 (by decide)
    unfold qf63_2 qf129_37
    rw [qv_g8 k hk, cond_false, cond_false, e52, Option.bind_some, e130, Option.bind_some, qv_eq0, qv_s1]
    cases b1 with
    | false =>
      rw [Bool.not_false, cond_true, cond_true]
      rcases ih (k + 1) n n' x y (by omega) (by omega) (by omega) hq hF with ⟨j, x', y', g1, g2, g3, g4, g5⟩ | ⟨x', y', g1, g2, g3, g4, g5⟩
      · exact Or.inl ⟨j, x', y', g1, g2, g3, g4, g5⟩
      · refine Or.inr ⟨x', y', g1, g2, g3, g4, fun t t1 t2 tu => ?_⟩
        by_cases e : t = k
        · subst e
          have := hb1.mpr (hU.mpr tu)
          cases this
        · exact g5 t (by omega) t2 tu
    | true =>
      rw [Bool.not_true, cond_false, cond_false, if_pos hin8, qv_tN k (by omega)]
      obtain ⟨size, s1, s2, s3, s4, s5⟩ := qh_sz hq hk
      have hgd : ∃ D, qk_V (qj_v y k) size D := by
        obtain ⟨D, hD⟩ := hgood k hk (hU.mp (hb1.mp rfl))
        rw [← hvv, ← h33, s4] at hD
        exact ⟨D, hD⟩
      obtain ⟨g, x1, c1, c2, c3, c4⟩ := qs_54 s1 s2 s5
      obtain ⟨g', y1, r1, r2, r3, r4⟩ := qcd_131 hk s1 s3
      have hg : g = true := by
        cases g with
        | false => exact absurd hgd (c3 rfl)
        | true => rfl
      have hg' : g' = true := by
        cases g' with
        | false => exact absurd hgd (r3 rfl)
        | true => rfl
      subst hg
      subst hg'
      obtain ⟨cX, cV⟩ := c4 rfl
      obtain ⟨rI, rV⟩ := r4 rfl
      have hq1 := qh_c c2 r2 hq
      have hv1 : qj_v y1 k = qj_v y k := by unfold qj_v; rw [r2 32 (by decide)]
      have hWd : ∀ D, qk_Wd y1 k D ↔ qk_Wd y k D := by intro D; unfold qk_Wd; rw [hv1, r2 34 (by decide)]
      have hSx : qa_S x1 y := (qh_c c2 (qfr_r (L := [60])) hq).2.1
      obtain ⟨b, e64, hb⟩ := qf_64 hk s1 (by rw [c2 14 (by decide)]; exact s2) (fun p hp => by rw [c2 17 (by decide)]; exact s5 p hp) hSx cX cV
      obtain ⟨b', e137, hb'⟩ := qf_137 (y := y1) hk s1 (by rw [r2 33 (by decide)]; exact s3) (by rw [hv1]; exact rI) (by rw [hv1]; exact rV)
      have hone := qk_one cX.1 cV rI rV
      have hWW : qk_Wd y k (x1 12 0) ↔ qk_Wd y k (y1 60 0) := by
        unfold qk_Wd
        constructor
        · intro g p hp hD
          exact g p hp (by rw [hone p hp]; exact hD)
        · intro g p hp hD
          exact g p hp (by rw [← hone p hp]; exact hD)
      have hbb : b = b' := by
        rw [hWd] at hb'
        cases b with
        | false =>
          cases b' with
          | false => rfl
          | true => have := hb.mpr (hWW.mpr (hb'.mp rfl)); cases this
        | true =>
          cases b' with
          | false => have := hb'.mpr (hWW.mp (hb.mp rfl)); cases this
          | true => rfl
      subst hbb
      have e137' : qf137 (Int32.ofNat k) y = some (qv_b b, y1) := by
        unfold qf137
        rw [r1, Option.bind_some]
        exact e137
      rw [c1, Option.bind_some, e137', Option.bind_some]
      dsimp only
      rw [qv_eq0, Bool.not_true, cond_false, if_pos hin8, e64, Option.bind_some, qv_ne0]
      cases b with
      | false =>
        left
        refine ⟨k, x1, y1, hk, rfl, ?_, c2, qfr_t hF r2⟩
        rw [cond_false, show (200 : Int32) = Int32.ofNat 200 from rfl, qv_add]
      | true =>
        rw [cond_true, cond_true]
        rcases ih (k + 1) n n' x1 y1 (by omega) (by omega) (by omega) hq1 (qfr_t hF r2) with ⟨j, x', y', g1, g2, g3, g4, g5⟩ | ⟨x', y', g1, g2, g3, g4, g5⟩
        · exact Or.inl ⟨j, x', y', g1, g2, g3, qfr_t c2 g4, g5⟩
        · refine Or.inr ⟨x', y', g1, g2, qfr_t c2 g3, g4, fun t t1 t2 tu => ?_⟩
          by_cases e : t = k
          · subst e
            refine ⟨y1 60 0, ?_, ?_⟩
            · rw [← hvv, ← h33, s4]; exact rV
            · have := (hWd _).mp (hb'.mp rfl)
              unfold qk_Wd at this ⊢
              rw [← hvv, ← h34]; exact this
          · exact g5 t (by omega) t2 tu
