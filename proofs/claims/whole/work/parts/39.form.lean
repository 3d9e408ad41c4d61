/-! the heap behind the makings: all references are fixed; the ints of it are a function -/
abbrev qp_S : Type := Nat → Nat → Nat → Int32
def qp_rf (k i j : Nat) : qm_V := (bif Nat.blt k 11 then (bif Nat.blt k 4 then (bif Nat.blt k 2 then (bif Nat.beq k 1 then (bif Nat.blt j 4 then (bif Nat.blt j 2 then (bif Nat.blt j 1 then (bif Nat.beq j 0 then vR 2 0 else vR 0 0) else (bif Nat.beq j 1 then vR 3 0 else vR 0 0)) else (bif Nat.blt j 3 then (bif Nat.beq j 2 then vR 4 0 else vR 0 0) else (bif Nat.beq j 3 then vR 5 0 else vR 0 0))) else (bif Nat.blt j 6 then (bif Nat.blt j 5 then (bif Nat.beq j 4 then vR 6 0 else vR 0 0) else (bif Nat.beq j 5 then vR 7 0 else vR 0 0)) else (bif Nat.blt j 7 then (bif Nat.beq j 6 then vR 8 0 else vR 0 0) else (bif Nat.beq j 7 then vR 10 0 else vR 0 0)))) else vR 0 0) else (bif Nat.blt k 3 then (bif Nat.beq k 2 then vR 14 j else vR 0 0) else (bif Nat.beq k 3 then vR 21 j else vR 0 0))) else (bif Nat.blt k 8 then (bif Nat.blt k 7 then (bif Nat.beq k 4 then vR 22 j else vR 0 0) else (bif Nat.beq k 7 then vR 26 j else vR 0 0)) else (bif Nat.blt k 10 then (bif Nat.beq k 8 then vR 9 0 else vR 0 0) else (bif Nat.beq k 10 then vR 11 0 else vR 0 0)))) else (bif Nat.blt k 19 then (bif Nat.blt k 14 then (bif Nat.beq k 11 then (bif Nat.blt j 1 then (bif Nat.beq j 0 then vR 12 0 else vR 0 0) else (bif Nat.beq j 1 then vR 13 0 else vR 0 0)) else vR 0 0) else (bif Nat.blt k 15 then (bif Nat.beq k 14 then (bif Nat.blt j 6 then (bif Nat.blt j 5 then (bif Nat.beq j 2 then vR 15 i else vR 0 0) else (bif Nat.beq j 5 then vR 17 i else vR 0 0)) else (bif Nat.blt j 7 then (bif Nat.beq j 6 then vR 18 i else vR 0 0) else (bif Nat.beq j 7 then vR 19 i else vR 0 0))) else vR 0 0) else (bif Nat.beq k 15 then vR 16 (6 * i + j) else vR 0 0))) else (bif Nat.blt k 24 then (bif Nat.blt k 22 then (bif Nat.beq k 19 then vR 20 i else vR 0 0) else (bif Nat.beq k 22 then (bif Nat.blt j 3 then (bif Nat.beq j 2 then vR 23 i else vR 0 0) else (bif Nat.beq j 3 then vR 24 i else vR 0 0)) else vR 0 0)) else (bif Nat.blt k 30 then (bif Nat.beq k 24 then vR 25 (4 * i + j) else vR 0 0) else (bif Nat.beq k 30 then (bif Nat.blt j 16 then (bif Nat.blt j 8 then (bif Nat.blt j 4 then (bif Nat.blt j 2 then (bif Nat.beq j 1 then vR 31 0 else vR 0 0) else (bif Nat.blt j 3 then (bif Nat.beq j 2 then vR 32 0 else vR 0 0) else (bif Nat.beq j 3 then vR 33 0 else vR 0 0))) else (bif Nat.blt j 6 then (bif Nat.blt j 5 then (bif Nat.beq j 4 then vR 34 0 else vR 0 0) else (bif Nat.beq j 5 then vR 35 0 else vR 0 0)) else (bif Nat.blt j 7 then (bif Nat.beq j 6 then vR 36 0 else vR 0 0) else (bif Nat.beq j 7 then vR 37 0 else vR 0 0)))) else (bif Nat.blt j 12 then (bif Nat.blt j 10 then (bif Nat.blt j 9 then (bif Nat.beq j 8 then vR 38 0 else vR 0 0) else (bif Nat.beq j 9 then vR 39 0 else vR 0 0)) else (bif Nat.blt j 11 then (bif Nat.beq j 10 then vR 40 0 else vR 0 0) else (bif Nat.beq j 11 then vR 41 0 else vR 0 0))) else (bif Nat.blt j 14 then (bif Nat.blt j 13 then (bif Nat.beq j 12 then vR 42 0 else vR 0 0) else (bif Nat.beq j 13 then vR 43 0 else vR 0 0)) else (bif Nat.blt j 15 then (bif Nat.beq j 14 then vR 44 0 else vR 0 0) else (bif Nat.beq j 15 then vR 45 0 else vR 0 0))))) else (bif Nat.blt j 27 then (bif Nat.blt j 19 then (bif Nat.blt j 17 then (bif Nat.beq j 16 then vR 46 0 else vR 0 0) else (bif Nat.blt j 18 then (bif Nat.beq j 17 then vR 47 0 else vR 0 0) else (bif Nat.beq j 18 then vR 48 0 else vR 0 0))) else (bif Nat.blt j 25 then (bif Nat.blt j 24 then (bif Nat.beq j 19 then vR 49 0 else vR 0 0) else (bif Nat.beq j 24 then vR 50 0 else vR 0 0)) else (bif Nat.blt j 26 then (bif Nat.beq j 25 then vR 51 0 else vR 0 0) else (bif Nat.beq j 26 then vR 52 0 else vR 0 0)))) else (bif Nat.blt j 32 then (bif Nat.blt j 29 then (bif Nat.blt j 28 then (bif Nat.beq j 27 then vR 53 0 else vR 0 0) else (bif Nat.beq j 28 then vR 54 0 else vR 0 0)) else (bif Nat.blt j 31 then (bif Nat.beq j 29 then vR 55 0 else vR 0 0) else (bif Nat.beq j 31 then vR 56 0 else vR 0 0))) else (bif Nat.blt j 37 then (bif Nat.blt j 36 then (bif Nat.beq j 32 then vR 57 0 else vR 0 0) else (bif Nat.beq j 36 then vR 58 0 else vR 0 0)) else (bif Nat.blt j 38 then (bif Nat.beq j 37 then vR 59 0 else vR 0 0) else (bif Nat.beq j 38 then vR 60 0 else vR 0 0)))))) else vR 0 0)))))
def qp_n (k : Nat) : Nat := (bif Nat.blt k 35 then (bif Nat.blt k 16 then (bif Nat.blt k 8 then (bif Nat.blt k 4 then (bif Nat.blt k 2 then (bif Nat.beq k 1 then 1 else 0) else (bif Nat.blt k 3 then (bif Nat.beq k 2 then 1 else 0) else (bif Nat.beq k 3 then 1 else 0))) else (bif Nat.blt k 6 then (bif Nat.blt k 5 then (bif Nat.beq k 4 then 1 else 0) else (bif Nat.beq k 5 then 1 else 0)) else (bif Nat.blt k 7 then (bif Nat.beq k 6 then 1 else 0) else (bif Nat.beq k 7 then 1 else 0)))) else (bif Nat.blt k 12 then (bif Nat.blt k 10 then (bif Nat.blt k 9 then (bif Nat.beq k 8 then 1 else 0) else (bif Nat.beq k 9 then 1 else 0)) else (bif Nat.blt k 11 then (bif Nat.beq k 10 then 1 else 0) else (bif Nat.beq k 11 then 1 else 0))) else (bif Nat.blt k 14 then (bif Nat.blt k 13 then (bif Nat.beq k 12 then 1 else 0) else (bif Nat.beq k 13 then 1 else 0)) else (bif Nat.blt k 15 then (bif Nat.beq k 14 then 8 else 0) else (bif Nat.beq k 15 then 8 else 0))))) else (bif Nat.blt k 24 then (bif Nat.blt k 20 then (bif Nat.blt k 18 then (bif Nat.blt k 17 then (bif Nat.beq k 16 then 48 else 0) else (bif Nat.beq k 17 then 8 else 0)) else (bif Nat.blt k 19 then (bif Nat.beq k 18 then 8 else 0) else (bif Nat.beq k 19 then 8 else 0))) else (bif Nat.blt k 22 then (bif Nat.blt k 21 then (bif Nat.beq k 20 then 8 else 0) else (bif Nat.beq k 21 then 16 else 0)) else (bif Nat.blt k 23 then (bif Nat.beq k 22 then 4 else 0) else (bif Nat.beq k 23 then 4 else 0)))) else (bif Nat.blt k 31 then (bif Nat.blt k 26 then (bif Nat.blt k 25 then (bif Nat.beq k 24 then 4 else 0) else (bif Nat.beq k 25 then 16 else 0)) else (bif Nat.blt k 30 then (bif Nat.beq k 26 then 8 else 0) else (bif Nat.beq k 30 then 1 else 0))) else (bif Nat.blt k 33 then (bif Nat.blt k 32 then (bif Nat.beq k 31 then 1 else 0) else (bif Nat.beq k 32 then 1 else 0)) else (bif Nat.blt k 34 then (bif Nat.beq k 33 then 1 else 0) else (bif Nat.beq k 34 then 1 else 0)))))) else (bif Nat.blt k 51 then (bif Nat.blt k 43 then (bif Nat.blt k 39 then (bif Nat.blt k 37 then (bif Nat.blt k 36 then (bif Nat.beq k 35 then 1 else 0) else (bif Nat.beq k 36 then 1 else 0)) else (bif Nat.blt k 38 then (bif Nat.beq k 37 then 1 else 0) else (bif Nat.beq k 38 then 1 else 0))) else (bif Nat.blt k 41 then (bif Nat.blt k 40 then (bif Nat.beq k 39 then 1 else 0) else (bif Nat.beq k 40 then 1 else 0)) else (bif Nat.blt k 42 then (bif Nat.beq k 41 then 1 else 0) else (bif Nat.beq k 42 then 1 else 0)))) else (bif Nat.blt k 47 then (bif Nat.blt k 45 then (bif Nat.blt k 44 then (bif Nat.beq k 43 then 1 else 0) else (bif Nat.beq k 44 then 1 else 0)) else (bif Nat.blt k 46 then (bif Nat.beq k 45 then 1 else 0) else (bif Nat.beq k 46 then 1 else 0))) else (bif Nat.blt k 49 then (bif Nat.blt k 48 then (bif Nat.beq k 47 then 1 else 0) else (bif Nat.beq k 48 then 1 else 0)) else (bif Nat.blt k 50 then (bif Nat.beq k 49 then 1 else 0) else (bif Nat.beq k 50 then 1 else 0))))) else (bif Nat.blt k 59 then (bif Nat.blt k 55 then (bif Nat.blt k 53 then (bif Nat.blt k 52 then (bif Nat.beq k 51 then 1 else 0) else (bif Nat.beq k 52 then 1 else 0)) else (bif Nat.blt k 54 then (bif Nat.beq k 53 then 1 else 0) else (bif Nat.beq k 54 then 1 else 0))) else (bif Nat.blt k 57 then (bif Nat.blt k 56 then (bif Nat.beq k 55 then 1 else 0) else (bif Nat.beq k 56 then 1 else 0)) else (bif Nat.blt k 58 then (bif Nat.beq k 57 then 1 else 0) else (bif Nat.beq k 58 then 1 else 0)))) else (bif Nat.blt k 63 then (bif Nat.blt k 61 then (bif Nat.blt k 60 then (bif Nat.beq k 59 then 1 else 0) else (bif Nat.beq k 60 then 1 else 0)) else (bif Nat.blt k 62 then (bif Nat.beq k 61 then 1 else 0) else (bif Nat.beq k 62 then 1 else 0))) else (bif Nat.blt k 65 then (bif Nat.blt k 64 then (bif Nat.beq k 63 then 1 else 0) else (bif Nat.beq k 64 then 1 else 0)) else (bif Nat.blt k 66 then (bif Nat.beq k 65 then 1 else 0) else (bif Nat.beq k 66 then 1 else 0)))))))
def qp_c (s : qp_S) (x : Int64) (k i j : Nat) : qm_V := bif Nat.beq (qk_dt k j) 0 then vI (s k i j) else bif Nat.beq (qk_dt k j) 1 then qp_rf k i j else vL (bif (Nat.beq k 61 && (Nat.beq i 0 && Nat.beq j 0)) then x else 0)
def qp_H (s : qp_S) (x : Int64) (e : Nat → Nat) : qm_H := (fun k => bif Nat.ble 70 k then e k else qp_n k, qp_c s x)
def qp_up (s : qp_S) (k i j : Nat) (v : Int32) : qp_S := fun a b c => if a = k ∧ b = i ∧ c = j then v else s a b c
def qp_bump (e : Nat → Nat) (k : Nat) : Nat → Nat := fun a => if a = k then e k + 1 else e a
theorem qp_put {s : qp_S} {x : Int64} {e : Nat → Nat} {k i j : Nat} {v : Int32} (h : qk_dt k j = 0) : qm_put (qp_H s x e) k i j (vI v) = qp_H (qp_up s k i j v) x e := by
  unfold qm_put qp_H
  congr 1
  funext a b c
  show (if a = k ∧ b = i ∧ c = j then vI v else qp_c s x a b c) = qp_c (qp_up s k i j v) x a b c
  unfold qp_c qp_up
  by_cases hq : a = k ∧ b = i ∧ c = j
  · rw [if_pos hq]
    obtain ⟨rfl, rfl, rfl⟩ := hq
    rw [h, if_pos ⟨rfl, rfl, rfl⟩]
    rfl
  · rw [if_neg hq, if_neg hq]
theorem qp_putL {s : qp_S} {x y : Int64} {e : Nat → Nat} : qm_put (qp_H s x e) 61 0 0 (vL y) = qp_H s y e := by
  unfold qm_put qp_H
  congr 1
  funext a b c
  show (if a = 61 ∧ b = 0 ∧ c = 0 then vL y else qp_c s x a b c) = qp_c s y a b c
  by_cases hq : a = 61 ∧ b = 0 ∧ c = 0
  · rw [if_pos hq]
    obtain ⟨rfl, rfl, rfl⟩ := hq
    rfl
  · rw [if_neg hq]
    unfold qp_c
    have h : (Nat.beq a 61 && (Nat.beq b 0 && Nat.beq c 0)) = false := by
      cases hb : (Nat.beq a 61 && (Nat.beq b 0 && Nat.beq c 0)) with
      | false => rfl
      | true =>
        rw [Bool.and_eq_true, Bool.and_eq_true] at hb
        exact absurd ⟨Nat.eq_of_beq_eq_true hb.1, Nat.eq_of_beq_eq_true hb.2.1, Nat.eq_of_beq_eq_true hb.2.2⟩ hq
    rw [h]
    rfl
theorem qp_new {s : qp_S} {x : Int64} {e : Nat → Nat} {k : Nat} {f : Nat → qm_V} (h : 70 ≤ k) (hl : qk_len k = 0) : qm_new (qp_H s x e) k f = qp_H s x (qp_bump e k) := by
  have hk : Nat.ble 70 k = true := Nat.ble_eq_true_of_le h
  unfold qm_new qp_H
  congr 1
  · funext a
    show (if a = k then (bif Nat.ble 70 k then e k else qp_n k) + 1 else (bif Nat.ble 70 a then e a else qp_n a)) = (bif Nat.ble 70 a then qp_bump e k a else qp_n a)
    unfold qp_bump
    by_cases ha : a = k
    · subst ha
      rw [if_pos rfl, if_pos rfl, hk]
      rfl
    · rw [if_neg ha, if_neg ha]
  · funext a b c
    rw [hl, if_neg]
    rintro ⟨-, -, h3⟩
    exact absurd h3 (Nat.not_lt_zero _)
