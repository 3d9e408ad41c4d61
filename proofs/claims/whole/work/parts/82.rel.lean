/-! what holds between class (x) and reference (y) -/
abbrev qN (a : Int32) : Nat := a.toNatClampNeg
/-! a job: height, next, ended, stack, locals, slots -/
abbrev qj : Type := Nat × Nat × Bool × (Nat → Int32) × (Nat → Int32) × (Nat → Int32)
def qj_w (v : Int32) : Nat := (v &&& 63).toNatClampNeg
def qj_n (v : Int32) : Int32 := v >>> ((6 : Int32) &&& 31)
def qj_tk (w : Nat) : Nat := if w = 3 ∨ w = 11 ∨ w = 12 ∨ w = 14 ∨ w = 16 then 1 else if (4 ≤ w ∧ w ≤ 9) ∨ w = 13 then 2 else 0
def qj_lv (w : Nat) : Nat := if w = 1 ∨ w = 2 ∨ w = 15 ∨ (4 ≤ w ∧ w ≤ 9) then 1 else if w = 12 ∨ w = 13 then 2 else 0
def qj_up (f : Nat → Int32) (k : Nat) (v : Int32) : Nat → Int32 := fun j => if j = k then v else f j
def qj_rk (w : Nat) (a b : Int32) : Int32 := if w = 4 then a + b else if w = 5 then a - b else if w = 6 then a * b else if w = 7 then (if b = 0 then 0 else a / b) else if w = 8 then qv_b (decide (a.toInt < b.toInt)) else qv_b (decide (a = b))
def qj_st (v : Int32) : qj → qj
  | (h, p, d, st, ow, sl) =>
    if qj_w v = 0 then (h, p + 1, true, st, ow, sl)
    else if qj_w v = 1 then (h + 1, p + 1, d, qj_up st h (qj_n v), ow, sl)
    else if qj_w v = 2 then (h + 1, p + 1, d, qj_up st h (sl (qN (qj_n v))), ow, sl)
    else if qj_w v = 3 then (h - 1, p + 1, d, st, ow, qj_up sl (qN (qj_n v)) (st (h - 1)))
    else if qj_w v ≤ 9 then (h - 1, p + 1, d, qj_up st (h - 2) (qj_rk (qj_w v) (st (h - 2)) (st (h - 1))), ow, sl)
    else if qj_w v = 10 then (h, qN (qj_n v), d, st, ow, sl)
    else if qj_w v = 11 then (h - 1, if st (h - 1) = 0 then qN (qj_n v) else p + 1, d, st, ow, sl)
    else if qj_w v = 12 then (h + 1, p + 1, d, qj_up st h (st (h - 1)), ow, sl)
    else if qj_w v = 13 then (h, p + 1, d, qj_up (qj_up st (h - 2) (st (h - 1))) (h - 1) (st (h - 2)), ow, sl)
    else if qj_w v = 14 then (h - 1, p + 1, d, st, ow, sl)
    else if qj_w v = 15 then (h + 1, p + 1, d, qj_up st h (ow (qN (qj_n v))), ow, sl)
    else (h - 1, p + 1, d, st, qj_up ow (qN (qj_n v)) (st (h - 1)), sl)
def qj_run (v : Nat → Int32) : Nat → qj → qj
  | 0, J => J
  | k + 1, J => if (qj_run v k J).2.2.1 = true then qj_run v k J else qj_st (v (qj_run v k J).2.1) (qj_run v k J)
def qj_v (y : qp_S) (i : Nat) : Nat → Int32 := fun p => if p < 32 then y 32 0 (32 * i + p) else 0
def qj_0 (y : qp_S) (i : Nat) : qj := (0, 0, false, fun _ => 0, fun j => if j < 4 then y 37 0 (4 * i + j) else 0, fun j => if j < 6 then y 36 0 (6 * i + j) else 0)
def qj_at (y : qp_S) (i k : Nat) : qj := qj_run (qj_v y i) k (qj_0 y i)
/-- the class's job is this one -/
def qj_C (x : qp_S) (i : Nat) (J : qj) : Prop := x 19 i 1 = Int32.ofNat J.1 ∧ x 14 i 10 = Int32.ofNat J.2.1 ∧ (∀ j, j < J.1 → x 20 i j = J.2.2.2.1 j) ∧ (∀ j, j < 4 → x 18 i j = J.2.2.2.2.1 j) ∧ ∀ j, j < 6 → x 16 (6 * i + j) 2 = J.2.2.2.2.2 j
/-- the reference's job is this one -/
def qj_R (y : qp_S) (J : qj) : Prop := y 30 0 33 = Int32.ofNat J.1 ∧ y 30 0 34 = Int32.ofNat J.2.1 ∧ y 30 0 35 = qv_b J.2.2.1 ∧ (∀ j, j < J.1 → y 57 0 j = J.2.2.2.1 j) ∧ (∀ j, j < 4 → y 58 0 j = J.2.2.2.2.1 j) ∧ ∀ j, j < 6 → y 59 0 j = J.2.2.2.2.2 j
/-! heights of a code -/
def qk_n (w : Nat) (n : Int32) (size : Nat) : Prop := (w = 2 ∨ w = 3 → 0 ≤ n.toInt ∧ n.toInt < 6) ∧ (w = 10 ∨ w = 11 → 0 ≤ n.toInt ∧ n.toInt < size) ∧ (w = 15 ∨ w = 16 → 0 ≤ n.toInt ∧ n.toInt < 4) ∧ (w = 0 ∨ (4 ≤ w ∧ w ≤ 9) ∨ (12 ≤ w ∧ w ≤ 14) → n = 0)
def qk_h (w h : Nat) : Nat := h - qj_tk w + qj_lv w
def qk_ok (v : Int32) (size : Nat) (D : Nat → Int32) (p h : Nat) : Prop := qj_w v ≤ 16 ∧ qj_tk (qj_w v) ≤ h ∧ qk_n (qj_w v) (qj_n v) size ∧ qk_h (qj_w v) h ≤ 8 ∧ (qj_w v ≠ 0 → qj_w v ≠ 10 → p + 1 < size ∧ D (p + 1) = Int32.ofNat (qk_h (qj_w v) h)) ∧ (qj_w v = 10 ∨ qj_w v = 11 → D (qN (qj_n v)) = Int32.ofNat (qk_h (qj_w v) h))
def qk_V (v : Nat → Int32) (size : Nat) (D : Nat → Int32) : Prop := 0 < size ∧ D 0 = 0 ∧ ∀ p, p < 32 → D p = -1 ∨ (p < size ∧ ∃ h, h ≤ 8 ∧ D p = Int32.ofNat h ∧ qk_ok (v p) size D p h)
def qk_Wd (y : qp_S) (i : Nat) (D : Nat → Int32) : Prop := ∀ p, p < 32 → D p ≠ -1 → (qj_w (qj_v y i p) = 2 → y 34 0 (6 * i + qN (qj_n (qj_v y i p))) = 0) ∧ (qj_w (qj_v y i p) = 3 → y 34 0 (6 * i + qN (qj_n (qj_v y i p))) = 1)
def qk_S (y : qp_S) (i : Nat) : Prop := ∃ D, qk_V (qj_v y i) (qN (y 33 0 i)) D ∧ qk_Wd y i D
def qk_U (y : qp_S) (i : Nat) : Prop := ∃ m, m < 4 ∧ 0 < qN (y 41 0 m) ∧ 0 < qN (y 42 0 (8 * m + i))
/-! the parts of the relation -/
def qa_B (x y : qp_S) : Prop := (∀ i, x 14 i 0 = y 31 0 i) ∧ ∀ i, i < 8 → ∃ b, 1 ≤ b ∧ b ≤ 200 ∧ y 31 0 i = Int32.ofNat b
def qa_W (x y : qp_S) : Prop := (∀ i, x 14 i 1 = y 33 0 i) ∧ (∀ i j, i < 8 → j < 32 → x 17 i j = y 32 0 (32 * i + j)) ∧ ∀ i, i < 8 → ∃ n, n ≤ 32 ∧ y 33 0 i = Int32.ofNat n
def qa_S (x y : qp_S) : Prop := (∀ k, x 16 k 0 = y 34 0 k) ∧ (∀ k, x 16 k 1 = y 35 0 k) ∧ (∀ k, k < 48 → (y 34 0 k = -1 ∨ y 34 0 k = 0 ∨ y 34 0 k = 1) ∧ ∃ p, p < 16 ∧ y 35 0 k = Int32.ofNat p) ∧ ∀ k, k < 48 → y 34 0 k = -1 → x 16 k 2 = 0
def qa_P (x y : qp_S) : Prop := ∀ p, x 21 p 0 = y 38 0 p ∧ x 21 p 1 = y 39 0 p ∧ x 21 p 2 = y 40 0 p ∧ (y 38 0 p).toInt ≤ (y 39 0 p).toInt
def qa_M (x y : qp_S) : Prop := (∀ m, x 22 m 0 = y 41 0 m ∧ x 22 m 1 = y 44 0 m) ∧ (∀ m t, m < 4 → t < 8 → x 23 m t = y 42 0 (8 * m + t)) ∧ (∀ m, m < 4 → ∃ p g, p ≤ 60 ∧ g ≤ 4 ∧ y 41 0 m = Int32.ofNat p ∧ y 44 0 m = Int32.ofNat g) ∧ ∀ k, k < 32 → ∃ f, f ≤ 12 ∧ y 42 0 k = Int32.ofNat f
def qa_G (x y : qp_S) : Prop := (∀ n j, n < 16 → j < 4 → x 25 n j = y 43 0 (4 * n + j)) ∧ ∀ n, n < 16 → ∃ p t, p < 16 ∧ t < 4 ∧ y 43 0 (4 * n) = Int32.ofNat p ∧ y 43 0 (4 * n + 3) = Int32.ofNat t
def qa_D (x y : qp_S) : Prop := (∀ k, x 5 0 k = y 45 0 k ∧ x 6 0 k = y 46 0 k ∧ x 26 k 0 = y 47 0 k ∧ x 26 k 1 = y 48 0 k ∧ x 26 k 2 = y 49 0 k) ∧ ∀ k, k < 8 → (y 45 0 k = -1 ∨ ∃ p, p < 16 ∧ y 45 0 k = Int32.ofNat p) ∧ (y 47 0 k = -1 ∨ ∃ p, p < 16 ∧ y 47 0 k = Int32.ofNat p)
def qa_E (x y : qp_S) : Prop := ∀ k, x 9 0 k = y 56 0 k
def qa_K (x y : qp_S) (r : Bool) (T B c n : Nat) : Prop := x 1 0 8 = qv_b r ∧ y 30 0 20 = qv_b r ∧ x 1 0 9 = Int32.ofNat T ∧ y 30 0 21 = Int32.ofNat T ∧ x 1 0 10 = Int32.ofNat c ∧ y 30 0 22 = Int32.ofNat c ∧ x 1 0 11 = Int32.ofNat B ∧ y 30 0 23 = Int32.ofNat B ∧ x 8 0 1 = Int32.ofNat n ∧ y 30 0 30 = Int32.ofNat n
/-- no job -/
def qa_J0 (x y : qp_S) (i : Nat) : Prop := y 50 0 i = 0 ∧ x 14 i 3 = -1 ∧ x 14 i 8 = -1 ∧ x 14 i 9 = 0 ∧ x 14 i 4 = 0 ∧ qj_C x i (qj_0 y i)
/-- a job -/
def qa_J1 (x y : qp_S) (i : Nat) : Prop := y 50 0 i = 1 ∧ ∃ a t b, y 31 0 i = Int32.ofNat b ∧ b ≤ 200 ∧ y 53 0 i = Int32.ofNat a ∧ y 54 0 i = Int32.ofNat t ∧ a ≤ t ∧ t ≤ b ∧ (∀ k, k < t → (qj_at y i k).2.2.1 = false) ∧ ((qj_at y i t).2.2.1 = true ∨ t = b) ∧ y 55 0 i = qv_b (!(qj_at y i t).2.2.1) ∧ x 14 i 9 = (if a < t then Int32.ofNat (b - a) else 0) ∧ x 14 i 4 = (if a < t then 0 else y 55 0 i) ∧ x 14 i 8 = y 51 0 i ∧ x 14 i 3 = y 52 0 i ∧ qj_C x i (qj_at y i a)
def qa_J (x y : qp_S) (i : Nat) : Prop := qa_J0 x y i ∨ qa_J1 x y i
/-- when a job was begun and is due -/
def qa_T (y : qp_S) (T B c i : Nat) : Prop := ∃ q, q < qN (y 42 0 (8 * c + i)) ∧ B + q * (qN (y 41 0 c) / qN (y 42 0 (8 * c + i))) ≤ T ∧ T < B + (q + 1) * (qN (y 41 0 c) / qN (y 42 0 (8 * c + i))) ∧ y 52 0 i = Int32.ofNat (B + (q + 1) * (qN (y 41 0 c) / qN (y 42 0 (8 * c + i))))
/-- what the look at the program has found -/
def qa_ok (y : qp_S) : Prop := (∀ m t, m < 4 → t < 8 → 0 < qN (y 41 0 m) → 0 < qN (y 42 0 (8 * m + t)) → qN (y 42 0 (8 * m + t)) ∣ qN (y 41 0 m)) ∧ (∀ m g, m < 4 → g < qN (y 44 0 m) → 0 < qN (y 41 0 m) → 0 < qN (y 41 0 (qN (y 43 0 (16 * m + 4 * g + 3))))) ∧ ∀ t, t < 8 → qk_U y t → qk_S y t
def qa_Z (y : qp_S) (r : Bool) (T B c n : Nat) : Prop := T ≤ 1000000 ∧ B ≤ T ∧ c < 4 ∧ n ≤ 48 * (T + 1) ∧ (r = false → T = 0 ∧ B = 0 ∧ c = 0 ∧ n = 0 ∧ (∀ k, k < 8 → y 49 0 k = 0) ∧ ∀ i, i < 8 → y 50 0 i = 0) ∧ (r = true → qa_ok y ∧ 0 < qN (y 41 0 c) ∧ T < B + qN (y 41 0 c) ∧ ∀ i, i < 8 → y 50 0 i = 1 → qa_T y T B c i)
def qa (x y : qp_S) (r : Bool) (T B c n : Nat) : Prop := qa_B x y ∧ qa_W x y ∧ qa_S x y ∧ qa_P x y ∧ qa_M x y ∧ qa_G x y ∧ qa_D x y ∧ qa_E x y ∧ qa_K x y r T B c n ∧ (∀ i, i < 8 → qa_J x y i) ∧ qa_Z y r T B c n
def qR (s : qp_S) : Prop := ∃ r T B c n, qa s s r T B c n
theorem qR_thr {s : qp_S} (v : Int32) {r : Bool} {T B c n : Nat} (h : qa s s r T B c n) : qR (qp_up s 30 0 0 v) := ⟨r, T, B, c, n, h⟩
