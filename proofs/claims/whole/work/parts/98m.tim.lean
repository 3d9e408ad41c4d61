/-! fault 6: is there time enough -/
def qh_S (y : qp_S) (m : Nat) : Nat → Nat
  | 0 => 0
  | k + 1 => qh_S y m k + qN (y 42 0 (8 * m + k)) * qN (y 31 0 k)
def qh_c1 (sp a b : Nat) : Nat → Nat
  | 0 => 0
  | k + 1 => qh_c1 sp a b k + (if a ≤ k * sp ∧ (k + 1) * sp ≤ b then 1 else 0)
def qh_D (y : qp_S) (m a b : Nat) : Nat → Nat
  | 0 => 0
  | t + 1 => qh_D y m a b t + qh_c1 (qN (y 41 0 m) / qN (y 42 0 (8 * m + t))) a b (qN (y 42 0 (8 * m + t))) * qN (y 31 0 t)
theorem qh_c1le (sp a b : Nat) : ∀ k, qh_c1 sp a b k ≤ k := by
  intro k
  induction k with
  | zero => exact Nat.le_refl _
  | succ k ih =>
    unfold qh_c1
    by_cases c : a ≤ k * sp ∧ (k + 1) * sp ≤ b
    · rw [if_pos c]; omega
    · rw [if_neg c]; omega
theorem qh_c1b (sp a b : Nat) : ∀ k, qh_c1 sp a b k * sp ≤ min b (k * sp) - a := by
  intro k
  induction k with
  | zero => show 0 * sp ≤ _; rw [Nat.zero_mul]; exact Nat.zero_le _
  | succ k ih =>
    have hm : (k + 1) * sp = k * sp + sp := by rw [Nat.add_mul, Nat.one_mul]
    unfold qh_c1
    by_cases c : a ≤ k * sp ∧ (k + 1) * sp ≤ b
    · rw [if_pos c, Nat.add_mul, Nat.one_mul]
      omega
    · rw [if_neg c, Nat.add_zero]
      omega
theorem qh_c1f (sp P : Nat) : ∀ f, f * sp ≤ P → qh_c1 sp 0 P f = f := by
  intro f
  induction f with
  | zero => intro _; rfl
  | succ f ih =>
    intro h
    have hm : (f + 1) * sp = f * sp + sp := by rw [Nat.add_mul, Nat.one_mul]
    unfold qh_c1
    rw [ih (by omega), if_pos ⟨Nat.zero_le _, h⟩]
theorem qh_DS {y : qp_S} {m a b : Nat} (hd : ∀ t, t < 8 → 0 < qN (y 42 0 (8 * m + t)) → qN (y 42 0 (8 * m + t)) ∣ qN (y 41 0 m)) : ∀ t, t ≤ 8 → qN (y 41 0 m) * qh_D y m a b t ≤ (b - a) * qh_S y m t := by
  intro t
  induction t with
  | zero => intro _; show _ * 0 ≤ _ * 0; rw [Nat.mul_zero, Nat.mul_zero]; exact Nat.le_refl _
  | succ t ih =>
    intro ht
    have h1 := ih (by omega)
    unfold qh_D qh_S
    rw [Nat.mul_add, Nat.mul_add]
    refine Nat.add_le_add h1 ?_
    obtain ⟨f, hf⟩ : ∃ f, f = qN (y 42 0 (8 * m + t)) := ⟨_, rfl⟩
    rw [← hf]
    rcases Nat.eq_zero_or_pos f with g | g
    · subst g
      show _ * (0 * _) ≤ _
      rw [Nat.zero_mul, Nat.mul_zero]; exact Nat.zero_le _
    · obtain ⟨sp, hsp⟩ : f ∣ qN (y 41 0 m) := by rw [hf]; exact hd t (by omega) (by omega)
      have e1 : qN (y 41 0 m) / f = sp := by rw [hsp]; exact Nat.mul_div_cancel_left sp g
      rw [e1]
      have h2 := qh_c1b sp a b f
      have h3 : qh_c1 sp a b f * sp ≤ b - a := by omega
      calc qN (y 41 0 m) * (qh_c1 sp a b f * qN (y 31 0 t)) = (qh_c1 sp a b f * sp) * (f * qN (y 31 0 t)) := by
            rw [hsp]
            simp only [Nat.mul_assoc, Nat.mul_comm, Nat.mul_left_comm]
        _ ≤ (b - a) * (f * qN (y 31 0 t)) := Nat.mul_le_mul_right _ h3
theorem qh_DP {y : qp_S} {m : Nat} (hd : ∀ t, t < 8 → 0 < qN (y 42 0 (8 * m + t)) → qN (y 42 0 (8 * m + t)) ∣ qN (y 41 0 m)) : ∀ t, t ≤ 8 → qh_D y m 0 (qN (y 41 0 m)) t = qh_S y m t := by
  intro t
  induction t with
  | zero => intro _; rfl
  | succ t ih =>
    intro ht
    unfold qh_D qh_S
    rw [ih (by omega)]
    obtain ⟨f, hf⟩ : ∃ f, f = qN (y 42 0 (8 * m + t)) := ⟨_, rfl⟩
    rw [← hf]
    have : qh_c1 (qN (y 41 0 m) / f) 0 (qN (y 41 0 m)) f = f := qh_c1f _ _ f (by rw [Nat.mul_comm]; exact Nat.div_mul_le_self _ _)
    rw [this]
/-- all parts of a period have time if the whole has -/
theorem qh_time {y : qp_S} {m : Nat} (hP : 0 < qN (y 41 0 m)) (hd : ∀ t, t < 8 → 0 < qN (y 42 0 (8 * m + t)) → qN (y 42 0 (8 * m + t)) ∣ qN (y 41 0 m)) : (∀ a b, a < b → b ≤ qN (y 41 0 m) → qh_D y m a b 8 ≤ 20 * (b - a)) ↔ qh_S y m 8 ≤ 20 * qN (y 41 0 m) := by
  constructor
  · intro h
    have := h 0 (qN (y 41 0 m)) hP (Nat.le_refl _)
    rw [qh_DP hd 8 (by omega)] at this
    exact this
  · intro h a b hab hb
    have h1 := qh_DS (a := a) (b := b) hd 8 (by omega)
    have h2 : qN (y 41 0 m) * qh_D y m a b 8 ≤ qN (y 41 0 m) * (20 * (b - a)) := by
      refine Nat.le_trans h1 (Nat.le_trans (Nat.mul_le_mul_left _ h) ?_)
      rw [show (b - a) * (20 * qN (y 41 0 m)) = qN (y 41 0 m) * (20 * (b - a)) by simp only [Nat.mul_assoc, Nat.mul_comm, Nat.mul_left_comm]]
      exact Nat.le_refl _
    exact Nat.le_of_mul_le_mul_left h2 hP
theorem qh_bd {x y : qp_S} (hB : qa_B x y) {t : Nat} (ht : t < 8) : qN (y 31 0 t) ≤ 200 ∧ y 31 0 t = Int32.ofNat (qN (y 31 0 t)) ∧ x 14 t 0 = Int32.ofNat (qN (y 31 0 t)) := by
  obtain ⟨b, b1, b2, b3⟩ := hB.2 t ht
  have : qN (y 31 0 t) = b := by rw [b3]; exact qv_tN b (by omega)
  rw [this]
  exact ⟨b2, b3, (hB.1 t).trans b3⟩
theorem qh_Sb {x y : qp_S} (hB : qa_B x y) (hM : qa_M x y) {m : Nat} (hm : m < 4) : ∀ t, t ≤ 8 → qh_S y m t ≤ 2400 * t := by
  intro t
  induction t with
  | zero => intro _; exact Nat.zero_le _
  | succ t ih =>
    intro ht
    have h1 := (qh_bd hB (show t < 8 by omega)).1
    have h2 := (qh_mf hM hm (show t < 8 by omega)).2.1
    have h3 := Nat.mul_le_mul h2 h1
    have := ih (by omega)
    unfold qh_S
    omega
theorem qh_Db {x y : qp_S} (hB : qa_B x y) (hM : qa_M x y) {m a b : Nat} (hm : m < 4) : ∀ t, t ≤ 8 → qh_D y m a b t ≤ 2400 * t := by
  intro t
  induction t with
  | zero => intro _; exact Nat.zero_le _
  | succ t ih =>
    intro ht
    have h1 := (qh_bd hB (show t < 8 by omega)).1
    have h2 := (qh_mf hM hm (show t < 8 by omega)).2.1
    have h4 := qh_c1le (qN (y 41 0 m) / qN (y 42 0 (8 * m + t))) a b (qN (y 42 0 (8 * m + t)))
    have h3 := Nat.mul_le_mul (Nat.le_trans h4 h2) h1
    have := ih (by omega)
    unfold qh_D
    omega
/-- the class asks for the whole period -/
theorem qh_75 {x y : qp_S} (hB : qa_B x y) (hM : qa_M x y) {m : Nat} (hm : m < 4) : ∃ b, qf75 m x = some (qv_b b) ∧ (0 < qN (y 41 0 m) → (b = true ↔ ¬ qh_S y m 8 ≤ 20 * qN (y 41 0 m))) ∧ (¬ 0 < qN (y 41 0 m) → b = false) := by
  have l0 : (0:Int32).toInt = 0 := rfl; have l1 : (1:Int32).toInt = 1 := rfl; have lm : (-1:Int32).toInt = -1 := rfl; have l3 : (3:Int32).toInt = 3 := rfl; have l4 : (4:Int32).toInt = 4 := rfl; have l5 : (5:Int32).toInt = 5 := rfl; have l6 : (6:Int32).toInt = 6 := rfl; have l7 : (7:Int32).toInt = 7 := rfl; have l8 : (8:Int32).toInt = 8 := rfl; have l15 : (15:Int32).toInt = 15 := rfl; have l16 : (16:Int32).toInt = 16 := rfl; have l32 : (32:Int32).toInt = 32 := rfl
  have hmf := qh_mf hM hm (show 0 < 8 by decide)
  obtain ⟨S, hS⟩ : ∃ S : Nat → Nat, ∀ k, S k = if 0 < qN (y 41 0 m) then qh_S y m k else 0 := ⟨_, fun _ => rfl⟩
  have hSb : S 8 ≤ 19200 := by
    rw [hS]
    by_cases c : 0 < qN (y 41 0 m)
    · rw [if_pos c]; have := qh_Sb hB hM hm 8 (by omega); omega
    · rw [if_neg c]; omega
  obtain ⟨r, mm, e, f1⟩ := qv_loop5 (fun n k (a : Int32) => qf75_4 n m a (Int32.ofNat k) x) 8 (fun k a => a = Int32.ofNat (S k))
    (by
      rintro k a hk rfl
      have h53 := qf_53 hM hm hk
      obtain ⟨u1, u2, u3, u4, u5, u6⟩ := qh_mf hM hm hk
      obtain ⟨v1, v2, v3⟩ := qh_bd hB hk
      have hin : qm_inb (Int32.ofNat k) 8 = true := qv_inT k 8 hk (by decide)
      by_cases c : 0 < qN (y 41 0 m) ∧ 0 < qN (y 42 0 (8 * m + k))
      · rw [decide_eq_true c] at h53
        refine ⟨Int32.ofNat (S (k + 1)), fun n => ?_, rfl⟩
        have e1 : Int32.ofNat (S (k + 1)) = Int32.ofNat (S k) + x 23 m k * x 14 k 0 := by
          rw [u6, v3, qv_mul, qv_add, hS, hS, if_pos c.1, if_pos c.1]; rfl
        rw [e1]
        unfold qf75_4
        rw [qv_g8 k hk, cond_false, h53, Option.bind_some, qv_eq0, Bool.not_true, cond_false, if_pos hin, if_pos hin, qv_tN k (by omega), qv_s1]
        cases n <;> rfl
      · rw [decide_eq_false c] at h53
        refine ⟨Int32.ofNat (S (k + 1)), fun n => ?_, rfl⟩
        have e1 : Int32.ofNat (S (k + 1)) = Int32.ofNat (S k) + 0 := by
          rw [Int32.add_zero, hS, hS]
          by_cases g : 0 < qN (y 41 0 m)
          · have : qN (y 42 0 (8 * m + k)) = 0 := by omega
            rw [if_pos g, if_pos g]
            show Int32.ofNat (qh_S y m k + qN (y 42 0 (8 * m + k)) * qN (y 31 0 k)) = _
            rw [this, Nat.zero_mul, Nat.add_zero]
          · rw [if_neg g, if_neg g]
        rw [e1]
        unfold qf75_4
        rw [qv_g8 k hk, cond_false, h53, Option.bind_some, qv_eq0, Bool.not_false, cond_true, qv_s1]
        cases n <;> rfl) 4096 0 (by decide) (by rw [hS]; by_cases g : 0 < qN (y 41 0 m) <;> simp [g, qh_S])
  subst f1
  have tS := qv_tI (S 8) (by omega)
  have t20 := qv_tI (20 * qN (y 41 0 m)) (by omega)
  have hend : qf75 m x = (bif qm_cmp .le (Int32.ofNat (S 8)) (Int32.ofNat (20 * qN (y 41 0 m))) then some (0 : Int32) else some (1 : Int32)) := by
    unfold qf75
    show qf75_4 4096 m 0 (Int32.ofNat 0) x = _
    rw [e]
    unfold qf75_4
    rw [qv_e8, cond_true, hmf.2.2.2.2.1, show (20 : Int32) = Int32.ofNat 20 from rfl, qv_mul]
  by_cases c : S 8 ≤ 20 * qN (y 41 0 m)
  · refine ⟨false, by rw [hend, qu_leT (by omega)]; rfl, fun g => ⟨(fun h => by cases h), fun h => ?_⟩, fun _ => rfl⟩
    rw [hS, if_pos g] at c; exact absurd c h
  · refine ⟨true, by rw [hend, qu_leF (by omega)]; rfl, fun g => ⟨fun _ => ?_, fun _ => rfl⟩, fun g => ?_⟩
    · rw [hS, if_pos g] at c; exact c
    · rw [hS, if_neg g] at c; omega
/-- the reference's demand -/
theorem qh_145 {x y : qp_S} (hB : qa_B x y) (hM : qa_M x y) {m a b : Nat} (hm : m < 4) (ha : a ≤ 60) (hb : b ≤ 60) : qf145 (Int32.ofNat m) (Int32.ofNat a) (Int32.ofNat b) y = some (Int32.ofNat (qh_D y m a b 8)) := by
  have l0 : (0:Int32).toInt = 0 := rfl; have l1 : (1:Int32).toInt = 1 := rfl; have lm : (-1:Int32).toInt = -1 := rfl; have l3 : (3:Int32).toInt = 3 := rfl; have l4 : (4:Int32).toInt = 4 := rfl; have l5 : (5:Int32).toInt = 5 := rfl; have l6 : (6:Int32).toInt = 6 := rfl; have l7 : (7:Int32).toInt = 7 := rfl; have l8 : (8:Int32).toInt = 8 := rfl; have l15 : (15:Int32).toInt = 15 := rfl; have l16 : (16:Int32).toInt = 16 := rfl; have l32 : (32:Int32).toInt = 32 := rfl
  have ta := qv_tI a (by omega)
  have tb := qv_tI b (by omega)
  have hin4 : qm_inb (Int32.ofNat m) 4 = true := qv_inT m 4 hm (by decide)
  have hinner : ∀ (L : Int32 → Int32 → Int32 → Int32 → Int32 → qp_S → Option (Int32)) (t A : Nat), t < 8 → qf145_30 L 4096 (Int32.ofNat m) (Int32.ofNat a) (Int32.ofNat b) (Int32.ofNat A) (Int32.ofNat t) (y 42 0 (8 * m + t)) 0 y = L (Int32.ofNat m) (Int32.ofNat a) (Int32.ofNat b) (Int32.ofNat (A + qh_c1 (qN (y 41 0 m) / qN (y 42 0 (8 * m + t))) a b (qN (y 42 0 (8 * m + t))) * qN (y 31 0 t))) (Int32.ofNat (t + 1)) y := by
    intro L t A ht
    obtain ⟨u1, u2, u3, u4, u5, u6⟩ := qh_mf hM hm ht
    obtain ⟨v1, v2, v3⟩ := qh_bd hB ht
    obtain ⟨f, hf⟩ : ∃ f, f = qN (y 42 0 (8 * m + t)) := ⟨_, rfl⟩
    rw [← hf] at u2 u4 ⊢
    rw [u4]
    have tf := qv_tI f (by omega)
    obtain ⟨sp, hsp⟩ : ∃ sp, sp = qN (y 41 0 m) / f := ⟨_, rfl⟩
    have hsp60 : sp ≤ 60 := by rw [hsp]; exact Nat.le_trans (Nat.div_le_self _ _) u1
    rw [← hsp]
    obtain ⟨r, mm, e, f1⟩ := qv_loop5 (fun n k (z : Int32) => qf145_30 L n (Int32.ofNat m) (Int32.ofNat a) (Int32.ofNat b) z (Int32.ofNat t) (Int32.ofNat f) (Int32.ofNat k) y) f (fun k z => z = Int32.ofNat (A + qh_c1 sp a b k * qN (y 31 0 t)))
      (by
        rintro k z hk rfl
        have tk := qv_tI k (by omega)
        have hfne : ¬ Int32.ofNat f = 0 := fun g => by have := qv_mi _ 0 g (by omega) (by omega); omega
        have edv : y 41 0 m / Int32.ofNat f = Int32.ofNat sp := by rw [u3, qv_div _ _ (by omega) (by omega), ← hsp]
        have hks : k * sp ≤ 12 * 60 := Nat.mul_le_mul (by omega) hsp60
        have hks1 : (k + 1) * sp ≤ 12 * 60 := Nat.mul_le_mul (by omega) hsp60
        have tks := qv_tI (k * sp) (by omega)
        have tks1 := qv_tI ((k + 1) * sp) (by omega)
        have hin : qm_inb (Int32.ofNat t) 8 = true := qv_inT t 8 ht (by decide)
        have hun : ∀ n, qf145_30 L (n + 1) (Int32.ofNat m) (Int32.ofNat a) (Int32.ofNat b) (Int32.ofNat (A + qh_c1 sp a b k * qN (y 31 0 t))) (Int32.ofNat t) (Int32.ofNat f) (Int32.ofNat k) y = (bif qm_cmp .lt (Int32.ofNat (k * sp)) (Int32.ofNat a) then qf145_30 L n (Int32.ofNat m) (Int32.ofNat a) (Int32.ofNat b) (Int32.ofNat (A + qh_c1 sp a b k * qN (y 31 0 t)) + 0) (Int32.ofNat t) (Int32.ofNat f) (Int32.ofNat (k + 1)) y else (bif qm_cmp .gt (Int32.ofNat ((k + 1) * sp)) (Int32.ofNat b) then qf145_30 L n (Int32.ofNat m) (Int32.ofNat a) (Int32.ofNat b) (Int32.ofNat (A + qh_c1 sp a b k * qN (y 31 0 t)) + 0) (Int32.ofNat t) (Int32.ofNat f) (Int32.ofNat (k + 1)) y else qf145_30 L n (Int32.ofNat m) (Int32.ofNat a) (Int32.ofNat b) (Int32.ofNat (A + qh_c1 sp a b k * qN (y 31 0 t)) + y 31 0 t) (Int32.ofNat t) (Int32.ofNat f) (Int32.ofNat (k + 1)) y)) := by
          intro n
          rw [← qv_mul, ← qv_mul, ← edv, ← qv_s1]
          show (bif qm_cmp .ge (Int32.ofNat k) (Int32.ofNat f) then _ else _) = _
          rw [qu_geF (by omega), cond_false, if_pos hin4, if_neg hfne, if_pos hin, qv_tN m (by omega), qv_tN t (by omega)]
        by_cases c1 : a ≤ k * sp
        · by_cases c2 : (k + 1) * sp ≤ b
          · refine ⟨_, fun n => by rw [hun, qu_ltF (by omega), cond_false, qu_gtF (by omega), cond_false], ?_⟩
            rw [(congrArg (Int32.ofNat (A + qh_c1 sp a b k * qN (y 31 0 t)) + ·) v2).trans (qv_add _ _)]
            congr 1
            show _ = A + (qh_c1 sp a b k + (if a ≤ k * sp ∧ (k + 1) * sp ≤ b then 1 else 0)) * qN (y 31 0 t)
            rw [if_pos ⟨c1, c2⟩, Nat.add_mul, Nat.one_mul, Nat.add_assoc]
          · refine ⟨_, fun n => by rw [hun, qu_ltF (by omega), cond_false, qu_gtT (by omega), cond_true], ?_⟩
            rw [Int32.add_zero]
            show _ = Int32.ofNat (A + (qh_c1 sp a b k + (if a ≤ k * sp ∧ (k + 1) * sp ≤ b then 1 else 0)) * qN (y 31 0 t))
            rw [if_neg (fun g => c2 g.2), Nat.add_zero]
        · refine ⟨_, fun n => by rw [hun, qu_ltT (by omega), cond_true], ?_⟩
          rw [Int32.add_zero]
          show _ = Int32.ofNat (A + (qh_c1 sp a b k + (if a ≤ k * sp ∧ (k + 1) * sp ≤ b then 1 else 0)) * qN (y 31 0 t))
          rw [if_neg (fun g => c1 g.1), Nat.add_zero]) 4096 (Int32.ofNat A) (by omega) (by rw [show qh_c1 sp a b 0 = 0 from rfl, Nat.zero_mul, Nat.add_zero])
    subst f1
    show qf145_30 L 4096 (Int32.ofNat m) (Int32.ofNat a) (Int32.ofNat b) (Int32.ofNat A) (Int32.ofNat t) (Int32.ofNat f) (Int32.ofNat 0) y = _
    rw [e]
    unfold qf145_30
    rw [qu_geT (Int.le_refl _), cond_true, qv_s1]
  have houter : ∀ d t n, t + d = 8 → d < n → qf145_6 n (Int32.ofNat m) (Int32.ofNat a) (Int32.ofNat b) (Int32.ofNat (qh_D y m a b t)) (Int32.ofNat t) y = some (Int32.ofNat (qh_D y m a b 8)) := by
    intro d
    induction d with
    | zero =>
      intro t n h1 h2
      obtain ⟨n, rfl⟩ : ∃ z, n = z + 1 := ⟨n - 1, by omega⟩
      obtain rfl : t = 8 := by omega
      unfold qf145_6
      rw [qv_e8, cond_true]
    | succ d ih =>
      intro t n h1 h2
      obtain ⟨n, rfl⟩ : ∃ z, n = z + 1 := ⟨n - 1, by omega⟩
      have hin : qm_inb (Int32.ofNat (8 * m + t)) 32 = true := qv_inT _ 32 (by omega) (by decide)
      have := hinner (qf145_6 n) t (qh_D y m a b t) (by omega)
      unfold qf145_6
      rw [qv_g8 t (by omega), cond_false, qv_c8, if_pos hin, qv_tN _ (by omega), this]
      exact ih (t + 1) n (by omega) (by omega)
  unfold qf145
  exact houter 8 0 4096 (by decide) (by decide)
theorem qh_144 {x y : qp_S} (hB : qa_B x y) (hM : qa_M x y) {m : Nat} (hm : m < 4) : ∃ r, qf144 (Int32.ofNat m) y = some r ∧ ∃ b, r = qv_b b ∧ (b = true ↔ ∀ a b, a < b → b ≤ qN (y 41 0 m) → qh_D y m a b 8 ≤ 20 * (b - a)) := by
  have l0 : (0:Int32).toInt = 0 := rfl; have l1 : (1:Int32).toInt = 1 := rfl; have lm : (-1:Int32).toInt = -1 := rfl; have l3 : (3:Int32).toInt = 3 := rfl; have l4 : (4:Int32).toInt = 4 := rfl; have l5 : (5:Int32).toInt = 5 := rfl; have l6 : (6:Int32).toInt = 6 := rfl; have l7 : (7:Int32).toInt = 7 := rfl; have l8 : (8:Int32).toInt = 8 := rfl; have l15 : (15:Int32).toInt = 15 := rfl; have l16 : (16:Int32).toInt = 16 := rfl; have l32 : (32:Int32).toInt = 32 := rfl
  have hmf := qh_mf hM hm (show 0 < 8 by decide)
  obtain ⟨P, hP⟩ : ∃ P, P = qN (y 41 0 m) := ⟨_, rfl⟩
  have hP60 := hmf.1
  have eP := hmf.2.2.1
  rw [← hP] at hP60 eP ⊢
  have tP := qv_tI P (by omega)
  have hin4 : qm_inb (Int32.ofNat m) 4 = true := qv_inT m 4 hm (by decide)
  have hinner : ∀ (L : Int32 → Int32 → qp_S → Option (Int32)) (a : Nat), a < P → ∀ d b n, b + d = P + 1 → d < n → (qf144_16 L n (Int32.ofNat m) (Int32.ofNat a) (Int32.ofNat b) y = some 0 ∧ ∃ b', b ≤ b' ∧ b' ≤ P ∧ ¬ qh_D y m a b' 8 ≤ 20 * (b' - a)) ∨ a < b → (qf144_16 L n (Int32.ofNat m) (Int32.ofNat a) (Int32.ofNat b) y = some 0 ∧ ∃ b', b ≤ b' ∧ b' ≤ P ∧ ¬ qh_D y m a b' 8 ≤ 20 * (b' - a)) ∨ (qf144_16 L n (Int32.ofNat m) (Int32.ofNat a) (Int32.ofNat b) y = L (Int32.ofNat m) (Int32.ofNat (a + 1)) y ∧ ∀ b', b ≤ b' → b' ≤ P → qh_D y m a b' 8 ≤ 20 * (b' - a)) := by
    intro L a ha d
    induction d with
    | zero =>
      intro b n h1 h2 h3
      rcases h3 with h3 | h3
      · exact Or.inl h3
      obtain ⟨n, rfl⟩ : ∃ z, n = z + 1 := ⟨n - 1, by omega⟩
      right
      have tb := qv_tI b (by omega)
      refine ⟨?_, fun b' g1 g2 => by omega⟩
      unfold qf144_16
      rw [if_pos hin4, qv_tN m (by omega), eP, qu_gtT (by omega), cond_true, qv_s1]
    | succ d ih =>
      intro b n h1 h2 h3
      rcases h3 with h3 | h3
      · exact Or.inl h3
      obtain ⟨n, rfl⟩ : ∃ z, n = z + 1 := ⟨n - 1, by omega⟩
      have tb := qv_tI b (by omega)
      have h145 := qh_145 hB hM hm (a := a) (b := b) (by omega) (by omega)
      have hDb := qh_Db hB hM (a := a) (b := b) hm 8 (by omega)
      have tD := qv_tI (qh_D y m a b 8) (by omega)
      have t20 := qv_tI (20 * (b - a)) (by omega)
      have hun : qf144_16 L (n + 1) (Int32.ofNat m) (Int32.ofNat a) (Int32.ofNat b) y = (bif qm_cmp .le (Int32.ofNat (qh_D y m a b 8)) (Int32.ofNat (20 * (b - a))) then qf144_16 L n (Int32.ofNat m) (Int32.ofNat a) (Int32.ofNat (b + 1)) y else some 0) := by
        rw [← qv_mul, ← qv_sub b a (by omega), ← qv_s1 b]
        show (if qm_inb (Int32.ofNat m) 4 = true then _ else _) = _
        rw [if_pos hin4, qv_tN m (by omega), eP, qu_gtF (by omega), cond_false, h145, Option.bind_some]
        rfl
      rw [hun]
      by_cases c : qh_D y m a b 8 ≤ 20 * (b - a)
      · rw [qu_leT (by omega), cond_true]
        rcases ih (b + 1) n (by omega) (by omega) (Or.inr (by omega)) with ⟨g1, b', g2, g3, g4⟩ | ⟨g1, g2⟩
        · exact Or.inl ⟨g1, b', by omega, g3, g4⟩
        · refine Or.inr ⟨g1, fun b' g3 g4 => ?_⟩
          by_cases e : b' = b
          · subst e; exact c
          · exact g2 b' (by omega) g4
      · left
        exact ⟨by rw [qu_leF (by omega), cond_false], b, Nat.le_refl _, by omega, c⟩
  have houter := qv_loop (fun n k (_ : Unit) => qf144_2 n (Int32.ofNat m) (Int32.ofNat k) y) P (fun k _ => ∀ a b, a < k → a < b → b ≤ P → qh_D y m a b 8 ≤ 20 * (b - a)) (fun r => ∃ b, r = qv_b b ∧ (b = true ↔ ∀ a b, a < b → b ≤ P → qh_D y m a b 8 ≤ 20 * (b - a)))
    (by
      intro n k _ hk hI
      have tk := qv_tI k (by omega)
      have hun : qf144_2 (n + 1) (Int32.ofNat m) (Int32.ofNat k) y = qf144_16 (qf144_2 n) 4096 (Int32.ofNat m) (Int32.ofNat k) (Int32.ofNat (k + 1)) y := by
        rw [← qv_s1]
        show (if qm_inb (Int32.ofNat m) 4 = true then _ else _) = _
        rw [if_pos hin4, qv_tN m (by omega), eP, qu_geF (by omega), cond_false]
      rcases hinner (qf144_2 n) k hk (P - k) (k + 1) 4096 (by omega) (by omega) (Or.inr (by omega)) with ⟨g1, b', g2, g3, g4⟩ | ⟨g1, g2⟩
      · left
        exact ⟨0, by rw [hun]; exact g1, false, rfl, fun g => (by cases g), fun g => absurd (g k b' (by omega) g3) g4⟩
      · right
        refine ⟨(), by rw [hun]; exact g1, fun a b h1 h2 h3 => ?_⟩
        by_cases e : a = k
        · subst e; exact g2 b (by omega) h3
        · exact hI a b (by omega) h2 h3)
    (by
      intro n _ hI
      refine ⟨1, ?_, true, rfl, fun _ a b h1 h2 => hI a b (by omega) h1 h2, fun _ => rfl⟩
      unfold qf144_2
      rw [if_pos hin4, qv_tN m (by omega), eP, qu_geT (Int.le_refl _), cond_true]) 4096 0 () (by omega) (by omega) (fun a b h => absurd h (Nat.not_lt_zero _))
  unfold qf144
  exact houter
