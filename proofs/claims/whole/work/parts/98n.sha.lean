/-! fault 4: ports that are shared -/
def qh_bit (p : Nat) : Int32 := (1 : Int32) <<< (Int32.ofNat p &&& 31)
theorem qh_bb : ∀ p, p < 16 → ∀ q, q < 16 → (qh_bit p &&& qh_bit q = 0 ↔ p ≠ q) := by decide +kernel
theorem qh_or (a b c : Int32) : (a ||| b) &&& c = 0 ↔ a &&& c = 0 ∧ b &&& c = 0 := by
  have e : (a ||| b) &&& c = (a &&& c) ||| (b &&& c) := by
    apply Int32.toBitVec_inj.mp
    rw [Int32.toBitVec_and, Int32.toBitVec_or, Int32.toBitVec_or, Int32.toBitVec_and, Int32.toBitVec_and]
    exact BitVec.and_or_distrib_right
  rw [e, Int32.or_eq_zero_iff]
/-- a mask's ports -/
def qh_m (a : Int32) (S : Nat → Prop) : Prop := ∀ p, p < 16 → (¬ a &&& qh_bit p = 0 ↔ S p)
theorem qh_mo {a : Int32} {S S' : Nat → Prop} {q : Nat} (h : qh_m a S) (hq : q < 16) (hS : ∀ p, p < 16 → (S' p ↔ S p ∨ p = q)) : qh_m (a ||| qh_bit q) S' := by
  intro p hp
  rw [hS p hp, ← h p hp, qh_or, qh_bb q hq p hp]
  constructor
  · intro g
    by_cases c : a &&& qh_bit p = 0
    · right
      exact Classical.byContradiction (fun e => g ⟨c, fun e2 => e e2.symm⟩)
    · exact Or.inl c
  · rintro (g | g) ⟨g1, g2⟩
    · exact g g1
    · exact g2 g.symm
def qh_n (P : Nat → Bool) : Nat → Nat
  | 0 => 0
  | k + 1 => qh_n P k + (if P k = true then 1 else 0)
theorem qh_nle (P : Nat → Bool) : ∀ n, qh_n P n ≤ n := by
  intro n
  induction n with
  | zero => exact Nat.le_refl _
  | succ n ih =>
    unfold qh_n
    by_cases c : P n = true
    · rw [if_pos c]; omega
    · rw [if_neg c]; omega
theorem qh_n1 {P : Nat → Bool} : ∀ n, 0 < qh_n P n ↔ ∃ k, k < n ∧ P k = true := by
  intro n
  induction n with
  | zero => exact ⟨fun h => absurd h (Nat.lt_irrefl 0), fun ⟨k, h, _⟩ => absurd h (Nat.not_lt_zero _)⟩
  | succ n ih =>
    unfold qh_n
    by_cases c : P n = true
    · rw [if_pos c]
      exact ⟨fun _ => ⟨n, by omega, c⟩, fun _ => by omega⟩
    · rw [if_neg c, Nat.add_zero, ih]
      constructor
      · rintro ⟨k, h, g⟩; exact ⟨k, by omega, g⟩
      · rintro ⟨k, h, g⟩
        have : k ≠ n := fun e => c (e ▸ g)
        exact ⟨k, by omega, g⟩
theorem qh_n2 {P : Nat → Bool} : ∀ n, 1 < qh_n P n ↔ ∃ j k, j < k ∧ k < n ∧ P j = true ∧ P k = true := by
  intro n
  induction n with
  | zero => exact ⟨fun h => absurd h (by show ¬ 1 < 0; omega), fun ⟨j, k, h1, h2, _⟩ => absurd h2 (Nat.not_lt_zero _)⟩
  | succ n ih =>
    unfold qh_n
    by_cases c : P n = true
    · rw [if_pos c]
      constructor
      · intro h
        obtain ⟨j, h1, h2⟩ := (qh_n1 n).mp (show 0 < qh_n P n by omega)
        exact ⟨j, n, h1, by omega, h2, c⟩
      · rintro ⟨j, k, h1, h2, h3, h4⟩
        have := (qh_n1 (P := P) n).mpr ⟨j, by omega, h3⟩
        omega
    · rw [if_neg c, Nat.add_zero, ih]
      constructor
      · rintro ⟨j, k, h1, h2, h3, h4⟩; exact ⟨j, k, h1, by omega, h3, h4⟩
      · rintro ⟨j, k, h1, h2, h3, h4⟩
        have : k ≠ n := fun e => c (e ▸ h4)
        exact ⟨j, k, h1, by omega, h3, h4⟩
/-- a sensor at a port -/
def qh_sa (y : qp_S) (p : Nat) : Nat → Bool := fun k => decide (y 45 0 k = Int32.ofNat p)
/-- an output at a port -/
def qh_oa (y : qp_S) (m p : Nat) : Nat → Bool := fun k => decide (0 < qN (y 42 0 (8 * m + k / 6)) ∧ y 34 0 k = 1 ∧ y 35 0 k = Int32.ofNat p)
theorem qh_142 {y : qp_S} {p : Nat} : qf142 (Int32.ofNat p) y = some (Int32.ofNat (qh_n (qh_sa y p) 8)) := by
  obtain ⟨r, mm, e, f1⟩ := qv_loop5 (fun n k (a : Int32) => qf142_4 n (Int32.ofNat p) a (Int32.ofNat k) y) 8 (fun k a => a = Int32.ofNat (qh_n (qh_sa y p) k))
    (by
      rintro k a hk rfl
      have hin : qm_inb (Int32.ofNat k) 8 = true := qv_inT k 8 hk (by decide)
      by_cases c : y 45 0 k = Int32.ofNat p
      · refine ⟨Int32.ofNat (qh_n (qh_sa y p) k) + 1, fun n => ?_, ?_⟩
        · unfold qf142_4
          rw [qv_g8 k hk, cond_false, if_pos hin, qv_tN k (by omega), qv_ne, decide_eq_false (fun g => g c), cond_false, qv_s1 k]
          cases n <;> rfl
        · rw [qv_s1]
          show _ = Int32.ofNat (qh_n (qh_sa y p) k + (if qh_sa y p k = true then 1 else 0))
          rw [if_pos (show qh_sa y p k = true from decide_eq_true c)]
      · refine ⟨Int32.ofNat (qh_n (qh_sa y p) k) + 0, fun n => ?_, ?_⟩
        · unfold qf142_4
          rw [qv_g8 k hk, cond_false, if_pos hin, qv_tN k (by omega), qv_ne, decide_eq_true c, cond_true, qv_s1 k]
          cases n <;> rfl
        · rw [Int32.add_zero]
          show _ = Int32.ofNat (qh_n (qh_sa y p) k + (if qh_sa y p k = true then 1 else 0))
          rw [if_neg (by unfold qh_sa; rw [decide_eq_false c]; decide), Nat.add_zero]) 4096 0 (by decide) rfl
  subst f1
  unfold qf142
  show qf142_4 4096 (Int32.ofNat p) 0 (Int32.ofNat 0) y = _
  rw [e]
  unfold qf142_4
  rw [qv_e8, cond_true]
def qh_sh (y : qp_S) (m p : Nat) : Prop := 1 < qh_n (qh_oa y m p) 48 ∨ (qh_n (qh_oa y m p) 48 = 1 ∧ 0 < qh_n (qh_sa y p) 8)
theorem qh_141 {x y : qp_S} (hM : qa_M x y) {m p : Nat} (hm : m < 4) : ∃ b, qf141 (Int32.ofNat m) (Int32.ofNat p) y = some (qv_b b) ∧ (b = true ↔ qh_sh y m p) := by
  have l0 : (0:Int32).toInt = 0 := rfl; have l1 : (1:Int32).toInt = 1 := rfl; have lm : (-1:Int32).toInt = -1 := rfl; have l3 : (3:Int32).toInt = 3 := rfl; have l4 : (4:Int32).toInt = 4 := rfl; have l5 : (5:Int32).toInt = 5 := rfl; have l6 : (6:Int32).toInt = 6 := rfl; have l7 : (7:Int32).toInt = 7 := rfl; have l8 : (8:Int32).toInt = 8 := rfl; have l15 : (15:Int32).toInt = 15 := rfl; have l16 : (16:Int32).toInt = 16 := rfl; have l32 : (32:Int32).toInt = 32 := rfl
  obtain ⟨r, mm, e, f1⟩ := qv_loop5 (fun n k (a : Int32) => qf141_5 n (Int32.ofNat m) (Int32.ofNat p) a (Int32.ofNat k) y) 48 (fun k a => a = Int32.ofNat (qh_n (qh_oa y m p) k))
    (by
      rintro k a hk rfl
      have hk6 : k / 6 < 8 := by omega
      obtain ⟨u1, u2, u3, u4, u5, u6⟩ := qh_mf hM hm hk6
      have tf := qv_tI (qN (y 42 0 (8 * m + k / 6))) (by omega)
      have hin : qm_inb (Int32.ofNat k) 48 = true := qv_inT k 48 hk (by decide)
      have hin32 : qm_inb (Int32.ofNat (8 * m + k / 6)) 32 = true := qv_inT _ 32 (by omega) (by decide)
      have edv : Int32.ofNat k / 6 = Int32.ofNat (k / 6) := qv_div k 6 (by omega) (by decide)
      have h6 : ¬ (6 : Int32) = 0 := by decide
      have hun : ∀ n, qf141_5 (n + 1) (Int32.ofNat m) (Int32.ofNat p) (Int32.ofNat (qh_n (qh_oa y m p) k)) (Int32.ofNat k) y = (bif qm_cmp .le (Int32.ofNat (qN (y 42 0 (8 * m + k / 6)))) 0 then qf141_5 n (Int32.ofNat m) (Int32.ofNat p) (Int32.ofNat (qh_n (qh_oa y m p) k) + 0) (Int32.ofNat (k + 1)) y else (bif qm_cmp .ne (y 34 0 k) 1 then qf141_5 n (Int32.ofNat m) (Int32.ofNat p) (Int32.ofNat (qh_n (qh_oa y m p) k) + 0) (Int32.ofNat (k + 1)) y else (bif qm_cmp .ne (y 35 0 k) (Int32.ofNat p) then qf141_5 n (Int32.ofNat m) (Int32.ofNat p) (Int32.ofNat (qh_n (qh_oa y m p) k) + 0) (Int32.ofNat (k + 1)) y else qf141_5 n (Int32.ofNat m) (Int32.ofNat p) (Int32.ofNat (qh_n (qh_oa y m p) k) + 1) (Int32.ofNat (k + 1)) y))) := by
        intro n
        rw [← u4, ← qv_s1 k]
        show (bif qm_cmp .ge (Int32.ofNat k) 48 then _ else _) = _
        rw [qv_g48 k hk, cond_false, if_neg h6, edv, qv_c8, if_pos hin32, if_pos hin, if_pos hin, qv_tN k (by omega), qv_tN _ (by omega)]
      have hno : ¬ (0 < qN (y 42 0 (8 * m + k / 6)) ∧ y 34 0 k = 1 ∧ y 35 0 k = Int32.ofNat p) → Int32.ofNat (qh_n (qh_oa y m p) k) + 0 = Int32.ofNat (qh_n (qh_oa y m p) (k + 1)) := by
        intro c
        rw [Int32.add_zero]
        show _ = Int32.ofNat (qh_n (qh_oa y m p) k + (if qh_oa y m p k = true then 1 else 0))
        rw [if_neg (by unfold qh_oa; rw [decide_eq_false c]; decide), Nat.add_zero]
      by_cases c1 : 0 < qN (y 42 0 (8 * m + k / 6))
      · by_cases c2 : y 34 0 k = 1
        · by_cases c3 : y 35 0 k = Int32.ofNat p
          · refine ⟨_, fun n => by rw [hun, qu_leF (by omega), cond_false, qv_ne, decide_eq_false (fun g => g c2), cond_false, qv_ne, decide_eq_false (fun g => g c3), cond_false], ?_⟩
            rw [qv_s1]
            show _ = Int32.ofNat (qh_n (qh_oa y m p) k + (if qh_oa y m p k = true then 1 else 0))
            rw [if_pos (show qh_oa y m p k = true from decide_eq_true ⟨c1, c2, c3⟩)]
          · exact ⟨_, fun n => by rw [hun, qu_leF (by omega), cond_false, qv_ne, decide_eq_false (fun g => g c2), cond_false, qv_ne, decide_eq_true c3, cond_true], hno (fun g => c3 g.2.2)⟩
        · exact ⟨_, fun n => by rw [hun, qu_leF (by omega), cond_false, qv_ne, decide_eq_true c2, cond_true], hno (fun g => c2 g.2.1)⟩
      · exact ⟨_, fun n => by rw [hun, qu_leT (by omega), cond_true], hno (fun g => c1 g.1)⟩) 4096 0 (by decide) rfl
  subst f1
  have hcl := qh_nle (qh_oa y m p) 48
  have hcs := qh_nle (qh_sa y p) 8
  have tc := qv_tI (qh_n (qh_oa y m p) 48) (by omega)
  have ts := qv_tI (qh_n (qh_sa y p) 8) (by omega)
  have hend : qf141 (Int32.ofNat m) (Int32.ofNat p) y = (bif qm_cmp .gt (Int32.ofNat (qh_n (qh_oa y m p) 48)) (1 : Int32) then some (1 : Int32) else (bif qm_cmp .ne (Int32.ofNat (qh_n (qh_oa y m p) 48)) (1 : Int32) then some (0 : Int32) else ((qf142 (Int32.ofNat p) y).bind fun q1 => (bif qm_cmp .le q1 (0 : Int32) then some (0 : Int32) else some (1 : Int32))))) := by
    unfold qf141
    show qf141_5 4096 (Int32.ofNat m) (Int32.ofNat p) 0 (Int32.ofNat 0) y = _
    rw [e]
    unfold qf141_5
    rw [qv_e48, cond_true]
  rw [hend]
  unfold qh_sh
  by_cases c1 : 1 < qh_n (qh_oa y m p) 48
  · exact ⟨true, by rw [qu_gtT (by omega)]; rfl, fun _ => Or.inl c1, fun _ => rfl⟩
  · rw [qu_gtF (by omega), cond_false]
    by_cases c2 : qh_n (qh_oa y m p) 48 = 1
    · rw [qu_neF (by omega), cond_false, qh_142, Option.bind_some]
      by_cases c3 : 0 < qh_n (qh_sa y p) 8
      · exact ⟨true, by rw [qu_leF (by omega)]; rfl, fun _ => Or.inr ⟨c2, c3⟩, fun _ => rfl⟩
      · exact ⟨false, by rw [qu_leT (by omega)]; rfl, (fun g => by cases g), fun g => by omega⟩
    · exact ⟨false, by rw [qu_neT (by omega)]; rfl, (fun g => by cases g), fun g => by omega⟩
def qh_b4 (y : qp_S) (m : Nat) : Prop := 0 < qN (y 41 0 m) ∧ ¬ ∀ p, p < 16 → ¬ qh_sh y m p ∧ (0 < m ∨ qh_n (qh_sa y p) 8 < 2)
theorem qh_140 {x y : qp_S} (hM : qa_M x y) {m : Nat} (hm : m < 4) (hP : 0 < qN (y 41 0 m)) : ∃ b, qf140 (Int32.ofNat m) y = some (qv_b b) ∧ (b = true ↔ ¬ qh_b4 y m) := by
  have l0 : (0:Int32).toInt = 0 := rfl; have l1 : (1:Int32).toInt = 1 := rfl; have lm : (-1:Int32).toInt = -1 := rfl; have l3 : (3:Int32).toInt = 3 := rfl; have l4 : (4:Int32).toInt = 4 := rfl; have l5 : (5:Int32).toInt = 5 := rfl; have l6 : (6:Int32).toInt = 6 := rfl; have l7 : (7:Int32).toInt = 7 := rfl; have l8 : (8:Int32).toInt = 8 := rfl; have l15 : (15:Int32).toInt = 15 := rfl; have l16 : (16:Int32).toInt = 16 := rfl; have l32 : (32:Int32).toInt = 32 := rfl; have l2 : (2:Int32).toInt = 2 := rfl
  have tm := qv_tI m (by omega)
  obtain ⟨r, hr, b, e, hb⟩ := qv_loop (fun n k (a : Int32) => qf140_4 n (Int32.ofNat m) a (Int32.ofNat k) y) 16 (fun k a => ∃ b, a = qv_b b ∧ (b = true ↔ ∀ p, p < k → ¬ qh_sh y m p ∧ (0 < m ∨ qh_n (qh_sa y p) 8 < 2))) (fun r => ∃ b, r = qv_b b ∧ (b = true ↔ ¬ qh_b4 y m))
    (by
      rintro n k a hk ⟨b, rfl, hb⟩
      right
      obtain ⟨g, e141, hg⟩ := qh_141 hM (p := k) hm
      have e142 := qh_142 (y := y) (p := k)
      have hcs := qh_nle (qh_sa y k) 8
      have ts := qv_tI (qh_n (qh_sa y k) 8) (by omega)
      have hstep : ∀ c : Bool, (c = true ↔ (b = true ∧ ¬ qh_sh y m k ∧ (0 < m ∨ qh_n (qh_sa y k) 8 < 2))) → (c = true ↔ ∀ p, p < k + 1 → ¬ qh_sh y m p ∧ (0 < m ∨ qh_n (qh_sa y p) 8 < 2)) := by
        intro c hc
        rw [hc, hb]
        constructor
        · rintro ⟨g1, g2⟩ p hp
          by_cases e : p = k
          · subst e; exact g2
          · exact g1 p (by omega)
        · intro g
          exact ⟨fun p hp => g p (by omega), g k (by omega)⟩
      have hun : qf140_4 (n + 1) (Int32.ofNat m) (qv_b b) (Int32.ofNat k) y = (bif !b then qf140_4 n (Int32.ofNat m) 0 (Int32.ofNat (k + 1)) y else (bif g then qf140_4 n (Int32.ofNat m) 0 (Int32.ofNat (k + 1)) y else (bif qm_cmp .gt (Int32.ofNat m) 0 then qf140_4 n (Int32.ofNat m) 1 (Int32.ofNat (k + 1)) y else (bif qm_cmp .ge (Int32.ofNat (qh_n (qh_sa y k) 8)) 2 then qf140_4 n (Int32.ofNat m) 0 (Int32.ofNat (k + 1)) y else qf140_4 n (Int32.ofNat m) 1 (Int32.ofNat (k + 1)) y)))) := by
        rw [← qv_eq0, ← qv_s1 k, ← qv_ne0 g]
        show (bif qm_cmp .ge (Int32.ofNat k) 16 then _ else _) = _
        rw [qv_g16 k hk, cond_false, e141, Option.bind_some, e142, Option.bind_some]
      cases b with
      | false => exact ⟨0, by rw [hun]; rfl, false, rfl, hstep false ⟨(fun g => by cases g), fun g => by cases g.1⟩⟩
      | true =>
        cases g with
        | true => exact ⟨0, by rw [hun]; rfl, false, rfl, hstep false ⟨(fun g => by cases g), fun g => absurd (hg.mp rfl) g.2.1⟩⟩
        | false =>
          have hns : ¬ qh_sh y m k := fun z => by have := hg.mpr z; cases this
          by_cases c1 : 0 < m
          · refine ⟨1, ?_, true, rfl, hstep true ⟨fun _ => ⟨rfl, hns, Or.inl c1⟩, fun _ => rfl⟩⟩
            rw [hun, Bool.not_true, cond_false, cond_false, qu_gtT (by omega), cond_true]
          · by_cases c2 : qh_n (qh_sa y k) 8 < 2
            · refine ⟨1, ?_, true, rfl, hstep true ⟨fun _ => ⟨rfl, hns, Or.inr c2⟩, fun _ => rfl⟩⟩
              rw [hun, Bool.not_true, cond_false, cond_false, qu_gtF (by omega), cond_false, qu_geF (by omega), cond_false]
            · refine ⟨0, ?_, false, rfl, hstep false ⟨(fun g => by cases g), fun g => by omega⟩⟩
              rw [hun, Bool.not_true, cond_false, cond_false, qu_gtF (by omega), cond_false, qu_geT (by omega), cond_true])
    (by
      rintro n a ⟨b, rfl, hb⟩
      refine ⟨qv_b b, ?_, b, rfl, hb.trans ⟨fun g g2 => g2.2 g, fun g => Classical.byContradiction (fun g2 => g ⟨hP, g2⟩)⟩⟩
      unfold qf140_4
      rw [qv_e16, cond_true]
      cases b <;> rfl) 4096 0 1 (by decide) (by decide) ⟨true, rfl, fun _ t ht => absurd ht (Nat.not_lt_zero _), fun _ => rfl⟩
  refine ⟨b, ?_, hb⟩
  rw [← e]
  unfold qf140
  exact hr
/-- an output of the mode -/
def qh_a (y : qp_S) (m k : Nat) : Prop := (0 < qN (y 41 0 m) ∧ 0 < qN (y 42 0 (8 * m + k / 6))) ∧ y 34 0 k = 1
theorem qh_71 {x y : qp_S} (hM : qa_M x y) (hS : qa_S x y) {m : Nat} (hm : m < 4) {a : Int32} {Z : Nat → Prop} (ha : qh_m a Z) : ∃ b, qf71 m a x = some (qv_b b) ∧ (b = true ↔ ∃ k, k < 48 ∧ qh_a y m k ∧ (Z (qN (y 35 0 k)) ∨ ∃ j, j < k ∧ qh_a y m j ∧ qN (y 35 0 j) = qN (y 35 0 k))) := by
  have l0 : (0:Int32).toInt = 0 := rfl; have l1 : (1:Int32).toInt = 1 := rfl; have lm : (-1:Int32).toInt = -1 := rfl; have l3 : (3:Int32).toInt = 3 := rfl; have l4 : (4:Int32).toInt = 4 := rfl; have l5 : (5:Int32).toInt = 5 := rfl; have l6 : (6:Int32).toInt = 6 := rfl; have l7 : (7:Int32).toInt = 7 := rfl; have l8 : (8:Int32).toInt = 8 := rfl; have l15 : (15:Int32).toInt = 15 := rfl; have l16 : (16:Int32).toInt = 16 := rfl; have l32 : (32:Int32).toInt = 32 := rfl
  obtain ⟨r, hr, b, e, hb⟩ := qv_loop (fun n k (t : Int32) => qf71_5 n m t (Int32.ofNat k) x) 48 (fun k t => qh_m t (fun p => Z p ∨ ∃ j, j < k ∧ qh_a y m j ∧ qN (y 35 0 j) = p) ∧ ¬ ∃ i, i < k ∧ qh_a y m i ∧ (Z (qN (y 35 0 i)) ∨ ∃ j, j < i ∧ qh_a y m j ∧ qN (y 35 0 j) = qN (y 35 0 i))) (fun r => ∃ b, r = qv_b b ∧ (b = true ↔ ∃ k, k < 48 ∧ qh_a y m k ∧ (Z (qN (y 35 0 k)) ∨ ∃ j, j < k ∧ qh_a y m j ∧ qN (y 35 0 j) = qN (y 35 0 k))))
    (by
      rintro n k t hk ⟨hI, hI2⟩
      have hk6 : k / 6 < 8 := by omega
      have h53 := qf_53 hM hm hk6
      have edv : Int32.ofNat k / 6 = Int32.ofNat (k / 6) := qv_div k 6 (by omega) (by decide)
      have erm : Int32.ofNat k - Int32.ofNat k / 6 * 6 = Int32.ofNat (k % 6) := qv_rem k 6 (by omega) (by decide)
      have h6 : ¬ (6 : Int32) = 0 := by decide
      have hin8 : qm_inb (Int32.ofNat (k / 6)) 8 = true := qv_inT _ 8 hk6 (by decide)
      have hin6 : qm_inb (Int32.ofNat (k % 6)) 6 = true := qv_inT _ 6 (by omega) (by decide)
      have ek : 6 * (k / 6) + k % 6 = k := by omega
      obtain ⟨p, hp, ep⟩ := (hS.2.2.1 k hk).2
      have eN : qN (y 35 0 k) = p := by rw [ep]; exact qv_tN p (by omega)
      have ew := hS.1 k
      have ep2 := (hS.2.1 k).trans ep
      have hun : qf71_5 (n + 1) m t (Int32.ofNat k) x = (bif !(decide (0 < qN (y 41 0 m) ∧ 0 < qN (y 42 0 (8 * m + k / 6)))) then qf71_61 (qf71_5 n) m t (Int32.ofNat k) x else (bif qm_cmp .ne (y 34 0 k) 1 then qf71_61 (qf71_5 n) m t (Int32.ofNat k) x else qf71_62 (qf71_5 n) m t (Int32.ofNat k) (qh_bit p) x)) := by
        rw [← qv_eq0]
        show (bif qm_cmp .ge (Int32.ofNat k) 48 then _ else _) = _
        rw [qv_g48 k hk, cond_false, if_neg h6, erm, edv, if_pos hin8, if_neg h6, if_pos hin6, if_neg h6, h53, Option.bind_some, qv_tN _ (by omega), qv_tN _ (by omega), ek, ew, ep2]
        rfl
      have hnot : ¬ qh_a y m k → qf71_5 (n + 1) m t (Int32.ofNat k) x = qf71_5 n m t (Int32.ofNat (k + 1)) x := by
        intro c
        have e61 : qf71_61 (qf71_5 n) m t (Int32.ofNat k) x = qf71_5 n m t (Int32.ofNat (k + 1)) x := by
          unfold qf71_61 qf71_62
          rw [Int32.and_zero, Int32.or_zero, qu_00T, cond_true, qv_s1]
        rw [hun]
        by_cases c1 : 0 < qN (y 41 0 m) ∧ 0 < qN (y 42 0 (8 * m + k / 6))
        · have c2 : ¬ y 34 0 k = 1 := fun g => c ⟨c1, g⟩
          rw [decide_eq_true c1, Bool.not_true, cond_false, qv_ne, decide_eq_true c2, cond_true, e61]
        · rw [decide_eq_false c1, Bool.not_false, cond_true, e61]
      by_cases c : qh_a y m k
      · have hun2 : qf71_5 (n + 1) m t (Int32.ofNat k) x = (bif qm_cmp .eq (t &&& qh_bit p) 0 then qf71_5 n m (t ||| qh_bit p) (Int32.ofNat (k + 1)) x else some 1) := by
          rw [hun, decide_eq_true c.1, Bool.not_true, cond_false, qv_ne, decide_eq_false (fun g => g c.2), cond_false]
          unfold qf71_62
          rw [qv_s1]
        by_cases d : t &&& qh_bit p = 0
        · right
          have hnz : ¬ (Z p ∨ ∃ j, j < k ∧ qh_a y m j ∧ qN (y 35 0 j) = p) := fun g => (hI p hp).mpr g d
          refine ⟨t ||| qh_bit p, by rw [hun2, qv_eq, decide_eq_true d, cond_true], qh_mo hI hp (fun q hq => ?_), ?_⟩
          · constructor
            · rintro (g | ⟨j, j1, j2, j3⟩)
              · exact Or.inl (Or.inl g)
              · by_cases e : j = k
                · subst e; exact Or.inr (by rw [← j3]; exact eN)
                · exact Or.inl (Or.inr ⟨j, by omega, j2, j3⟩)
            · rintro ((g | ⟨j, j1, j2, j3⟩) | g)
              · exact Or.inl g
              · exact Or.inr ⟨j, by omega, j2, j3⟩
              · exact Or.inr ⟨k, by omega, c, by rw [eN]; exact g.symm⟩
          · rintro ⟨i, i1, i2, i3⟩
            by_cases e : i = k
            · subst e; rw [eN] at i3; exact hnz i3
            · exact hI2 ⟨i, by omega, i2, i3⟩
        · left
          refine ⟨1, by rw [hun2, qv_eq, decide_eq_false d, cond_false], true, rfl, fun _ => ⟨k, hk, c, ?_⟩, fun _ => rfl⟩
          rw [eN]
          exact (hI p hp).mp d
      · right
        refine ⟨t, hnot c, fun q hq => (hI q hq).trans ⟨?_, ?_⟩, ?_⟩
        · rintro (g | ⟨j, j1, j2, j3⟩)
          · exact Or.inl g
          · exact Or.inr ⟨j, by omega, j2, j3⟩
        · rintro (g | ⟨j, j1, j2, j3⟩)
          · exact Or.inl g
          · have : j ≠ k := fun e => c (e ▸ j2)
            exact Or.inr ⟨j, by omega, j2, j3⟩
        · rintro ⟨i, i1, i2, i3⟩
          have : i ≠ k := fun e => c (e ▸ i2)
          exact hI2 ⟨i, by omega, i2, i3⟩)
    (by
      rintro n t ⟨hI, hI2⟩
      refine ⟨0, ?_, false, rfl, (fun g => by cases g), fun g => absurd g hI2⟩
      unfold qf71_5
      rw [qv_e48, cond_true]) 4096 0 a (by decide) (by decide) ⟨fun p hp => (ha p hp).trans ⟨fun g => Or.inl g, fun g => by rcases g with g | ⟨j, h, _⟩; exact g; exact absurd h (Nat.not_lt_zero _)⟩, fun ⟨i, h, _⟩ => absurd h (Nat.not_lt_zero _)⟩
  refine ⟨b, ?_, hb⟩
  rw [← e]
  unfold qf71
  exact hr
/-- what the class shares is what the reference counts -/
theorem qh_ab {x y : qp_S} (hS : qa_S x y) {m : Nat} (hP : 0 < qN (y 41 0 m)) : (∃ k, k < 48 ∧ qh_a y m k ∧ ((∃ s, s < 8 ∧ y 45 0 s = Int32.ofNat (qN (y 35 0 k))) ∨ ∃ j, j < k ∧ qh_a y m j ∧ qN (y 35 0 j) = qN (y 35 0 k))) ↔ ∃ p, p < 16 ∧ qh_sh y m p := by
  have hpk : ∀ k, k < 48 → qN (y 35 0 k) < 16 ∧ y 35 0 k = Int32.ofNat (qN (y 35 0 k)) := by
    intro k hk
    obtain ⟨p, hp, ep⟩ := (hS.2.2.1 k hk).2
    have eN : qN (y 35 0 k) = p := by rw [ep]; exact qv_tN p (by omega)
    rw [eN]; exact ⟨hp, ep⟩
  have hoa : ∀ k p, k < 48 → p < 16 → (qh_oa y m p k = true ↔ qh_a y m k ∧ qN (y 35 0 k) = p) := by
    intro k p hk hp
    obtain ⟨h1, h2⟩ := hpk k hk
    unfold qh_oa qh_a
    rw [decide_eq_true_iff]
    constructor
    · rintro ⟨g1, g2, g3⟩
      refine ⟨⟨⟨hP, g1⟩, g2⟩, ?_⟩
      rw [g3]; exact qv_tN p (by omega)
    · rintro ⟨⟨⟨g1, g2⟩, g3⟩, g4⟩
      exact ⟨g2, g3, by rw [← g4]; exact h2⟩
  have hsa : ∀ p, (0 < qh_n (qh_sa y p) 8 ↔ ∃ s, s < 8 ∧ y 45 0 s = Int32.ofNat p) := by
    intro p
    rw [qh_n1]
    constructor
    · rintro ⟨k, h1, h2⟩; exact ⟨k, h1, of_decide_eq_true h2⟩
    · rintro ⟨k, h1, h2⟩; exact ⟨k, h1, decide_eq_true h2⟩
  constructor
  · rintro ⟨k, hk, ha, h⟩
    obtain ⟨p1, p2⟩ := hpk k hk
    refine ⟨qN (y 35 0 k), p1, ?_⟩
    have hok := (hoa k _ hk p1).mpr ⟨ha, rfl⟩
    rcases h with h | ⟨j, j1, j2, j3⟩
    · have h1 := (qh_n1 (P := qh_oa y m (qN (y 35 0 k))) 48).mpr ⟨k, hk, hok⟩
      by_cases c : 1 < qh_n (qh_oa y m (qN (y 35 0 k))) 48
      · exact Or.inl c
      · exact Or.inr ⟨by omega, (hsa _).mpr h⟩
    · left
      rw [qh_n2]
      exact ⟨j, k, j1, hk, (hoa j _ (by omega) p1).mpr ⟨j2, j3⟩, hok⟩
  · rintro ⟨p, hp, h⟩
    rcases h with h | ⟨h1, h2⟩
    · obtain ⟨j, k, h1, h2, h3, h4⟩ := (qh_n2 48).mp h
      obtain ⟨a1, a2⟩ := (hoa j p (by omega) hp).mp h3
      obtain ⟨b1, b2⟩ := (hoa k p h2 hp).mp h4
      exact ⟨k, h2, b1, Or.inr ⟨j, h1, a1, by rw [a2, b2]⟩⟩
    · obtain ⟨k, k1, k2⟩ := (qh_n1 (P := qh_oa y m p) 48).mp (by omega)
      obtain ⟨b1, b2⟩ := (hoa k p k1 hp).mp k2
      refine ⟨k, k1, b1, Or.inl ?_⟩
      rw [b2]; exact (hsa p).mp h2
