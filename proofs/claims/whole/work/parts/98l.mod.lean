/-! the modes' faults: the first that is bad; faults 3 and 5 -/
def qh_f (p : Nat → Bool) : Nat → Nat → Option Nat
  | 0, _ => none
  | d + 1, k => bif p k then some k else qh_f p d (k + 1)
def qh_o : Option Nat → Int32
  | some m => Int32.ofNat m
  | none => -1
theorem qh_fs {p : Nat → Bool} : ∀ d k j, qh_f p d k = some j → k ≤ j ∧ j < k + d ∧ p j = true := by
  intro d
  induction d with
  | zero => intro k j h; cases h
  | succ d ih =>
    intro k j h
    unfold qh_f at h
    cases hp : p k with
    | true => rw [hp] at h; cases h; exact ⟨by omega, by omega, hp⟩
    | false =>
      rw [hp] at h
      have := ih (k + 1) j h
      exact ⟨by omega, by omega, this.2.2⟩
theorem qh_fn {p : Nat → Bool} : ∀ d k, qh_f p d k = none → ∀ j, k ≤ j → j < k + d → p j = false := by
  intro d
  induction d with
  | zero => intro k h j h1 h2; omega
  | succ d ih =>
    intro k h j h1 h2
    unfold qh_f at h
    cases hp : p k with
    | true => rw [hp] at h; cases h
    | false =>
      rw [hp] at h
      by_cases e : j = k
      · subst e; exact hp
      · exact ih (k + 1) h j (by omega) (by omega)
theorem qh_cl (f : Nat → Nat → Option Int32) (bad : Nat → Bool) (hs : ∀ n k, k < 4 → f (n + 1) k = bif bad k then some (Int32.ofNat k) else f n (k + 1)) (he : ∀ n, f (n + 1) 4 = some (-1)) : ∀ d k n, k + d = 4 → d < n → f n k = some (qh_o (qh_f bad d k)) := by
  intro d
  induction d with
  | zero =>
    intro k n h1 h2
    obtain ⟨n, rfl⟩ : ∃ z, n = z + 1 := ⟨n - 1, by omega⟩
    obtain rfl : k = 4 := by omega
    exact he n
  | succ d ih =>
    intro k n h1 h2
    obtain ⟨n, rfl⟩ : ∃ z, n = z + 1 := ⟨n - 1, by omega⟩
    rw [hs n k (by omega)]
    unfold qh_f
    cases bad k with
    | true => rfl
    | false => exact ih (k + 1) n (by omega) (by omega)
theorem qh_rf {x y : qp_S} (hM : qa_M x y) (L : Int32 → qp_S → Option (Int32 × qp_S)) (k : Nat) (bad : Nat → Bool) (hb : ∀ m, m < 4 → (0 < qN (y 41 0 m) → qf138 (Int32.ofNat k) (Int32.ofNat m) y = some (qv_b (!bad m))) ∧ (¬ 0 < qN (y 41 0 m) → bad m = false)) : ∀ d m n, m + d = 4 → d < n → qf128_34 L n (Int32.ofNat k) (Int32.ofNat m) y = match qh_f bad d m with | some j => some (Int32.ofNat (100 * k + j), y) | none => L (Int32.ofNat (k + 1)) y := by
  have l0 : (0:Int32).toInt = 0 := rfl; have l1 : (1:Int32).toInt = 1 := rfl; have lm : (-1:Int32).toInt = -1 := rfl; have l3 : (3:Int32).toInt = 3 := rfl; have l4 : (4:Int32).toInt = 4 := rfl; have l5 : (5:Int32).toInt = 5 := rfl; have l6 : (6:Int32).toInt = 6 := rfl; have l7 : (7:Int32).toInt = 7 := rfl; have l8 : (8:Int32).toInt = 8 := rfl; have l15 : (15:Int32).toInt = 15 := rfl; have l16 : (16:Int32).toInt = 16 := rfl; have l32 : (32:Int32).toInt = 32 := rfl
  intro d
  induction d with
  | zero =>
    intro m n h1 h2
    obtain ⟨n, rfl⟩ : ∃ z, n = z + 1 := ⟨n - 1, by omega⟩
    obtain rfl : m = 4 := by omega
    unfold qf128_34
    rw [qv_e4, cond_true, qv_s1]; rfl
  | succ d ih =>
    intro m n h1 h2
    obtain ⟨n, rfl⟩ : ∃ z, n = z + 1 := ⟨n - 1, by omega⟩
    obtain ⟨p, g, p1, p2, p3, p4⟩ := hM.2.2.1 m (by omega)
    have tp := qv_tI p (by omega)
    have eP : qN (y 41 0 m) = p := by rw [p3]; exact qv_tN p (by omega)
    obtain ⟨b1, b2⟩ := hb m (by omega)
    rw [eP] at b1 b2
    have hih := ih (m + 1) n (by omega) (by omega)
    unfold qf128_34
    rw [qv_g4 m (by omega), cond_false, if_pos (qv_inT m 4 (by omega) (by decide)), qv_tN m (by omega), p3, qv_s1]
    unfold qh_f
    by_cases c : 0 < p
    · rw [qu_leF (by omega), cond_false, b1 c, Option.bind_some, qv_ne0]
      cases bad m with
      | true =>
        rw [Bool.not_true, cond_false, cond_true, show (100 : Int32) = Int32.ofNat 100 from rfl, qv_mul, qv_add]
      | false =>
        rw [Bool.not_false, cond_true, cond_false]
        exact hih
    · rw [qu_leT (by omega), cond_true, b2 c, cond_false]
      exact hih
/-- what is read of a mode -/
theorem qh_mf {x y : qp_S} (hM : qa_M x y) {m t : Nat} (hm : m < 4) (ht : t < 8) : qN (y 41 0 m) ≤ 60 ∧ qN (y 42 0 (8 * m + t)) ≤ 12 ∧ y 41 0 m = Int32.ofNat (qN (y 41 0 m)) ∧ y 42 0 (8 * m + t) = Int32.ofNat (qN (y 42 0 (8 * m + t))) ∧ x 22 m 0 = Int32.ofNat (qN (y 41 0 m)) ∧ x 23 m t = Int32.ofNat (qN (y 42 0 (8 * m + t))) := by
  obtain ⟨p, g, p1, p2, p3, p4⟩ := hM.2.2.1 m hm
  obtain ⟨f, f1, f2⟩ := hM.2.2.2 (8 * m + t) (by omega)
  have eP : qN (y 41 0 m) = p := by rw [p3]; exact qv_tN p (by omega)
  have eF : qN (y 42 0 (8 * m + t)) = f := by rw [f2]; exact qv_tN f (by omega)
  rw [eP, eF]
  exact ⟨p1, f1, p3, f2, (hM.1 m).1.trans p3, (hM.2.1 m t hm ht).trans f2⟩
def qh_b3 (y : qp_S) (m : Nat) : Prop := 0 < qN (y 41 0 m) ∧ ¬ ∀ t, t < 8 → 0 < qN (y 42 0 (8 * m + t)) → qN (y 42 0 (8 * m + t)) ∣ qN (y 41 0 m)
theorem qh_dv {P f : Nat} (hf : 0 < f) : P / f * f = P ↔ f ∣ P := ⟨fun h => ⟨P / f, by rw [Nat.mul_comm]; exact h.symm⟩, fun h => Nat.div_mul_cancel h⟩
theorem qh_68 {x y : qp_S} (hM : qa_M x y) {m : Nat} (hm : m < 4) : ∃ b, qf68 m x = some (qv_b b) ∧ (b = true ↔ qh_b3 y m) := by
  have l0 : (0:Int32).toInt = 0 := rfl; have l1 : (1:Int32).toInt = 1 := rfl; have lm : (-1:Int32).toInt = -1 := rfl; have l3 : (3:Int32).toInt = 3 := rfl; have l4 : (4:Int32).toInt = 4 := rfl; have l5 : (5:Int32).toInt = 5 := rfl; have l6 : (6:Int32).toInt = 6 := rfl; have l7 : (7:Int32).toInt = 7 := rfl; have l8 : (8:Int32).toInt = 8 := rfl; have l15 : (15:Int32).toInt = 15 := rfl; have l16 : (16:Int32).toInt = 16 := rfl; have l32 : (32:Int32).toInt = 32 := rfl
  obtain ⟨r, hr, b, e, hb⟩ := qv_loop (fun n k (_ : Unit) => qf68_2 n m (Int32.ofNat k) x) 8 (fun k _ => 0 < qN (y 41 0 m) → ∀ t, t < k → 0 < qN (y 42 0 (8 * m + t)) → qN (y 42 0 (8 * m + t)) ∣ qN (y 41 0 m)) (fun r => ∃ b, r = qv_b b ∧ (b = true ↔ qh_b3 y m))
    (by
      intro n k _ hk hI
      have h53 := qf_53 hM hm hk
      obtain ⟨u1, u2, u3, u4, u5, u6⟩ := qh_mf hM hm hk
      by_cases c : 0 < qN (y 41 0 m) ∧ 0 < qN (y 42 0 (8 * m + k))
      · rw [decide_eq_true c] at h53
        have hfne : ¬ Int32.ofNat (qN (y 42 0 (8 * m + k))) = 0 := fun g => by have := qv_mi _ 0 g (by omega) (by omega); omega
        have hin : qm_inb (Int32.ofNat k) 8 = true := qv_inT k 8 hk (by decide)
        have h69 : qf69 m (Int32.ofNat k) x = some (Int32.ofNat (qN (y 41 0 m) / qN (y 42 0 (8 * m + k)))) := by
          unfold qf69
          rw [h53, Option.bind_some, qv_eq0, Bool.not_true, cond_false, if_pos hin, qv_tN k (by omega), u5, u6, if_neg hfne, qv_div _ _ (by omega) (by omega)]
        have hle : qN (y 41 0 m) / qN (y 42 0 (8 * m + k)) * qN (y 42 0 (8 * m + k)) ≤ qN (y 41 0 m) := Nat.div_mul_le_self _ _
        have hun : qf68_2 (n + 1) m (Int32.ofNat k) x = (bif decide (qN (y 41 0 m) / qN (y 42 0 (8 * m + k)) * qN (y 42 0 (8 * m + k)) = qN (y 41 0 m)) then qf68_2 n m (Int32.ofNat (k + 1)) x else some 1) := by
          rw [← qv_eqj _ _ (by omega) (by omega), ← qv_mul, ← u5]
          unfold qf68_2
          rw [qv_g8 k hk, cond_false, h53, Option.bind_some, qv_eq0, Bool.not_true, cond_false, h69, Option.bind_some, if_pos hin, qv_tN k (by omega), u6, qv_s1]
          cases n <;> rfl
        by_cases d : qN (y 41 0 m) / qN (y 42 0 (8 * m + k)) * qN (y 42 0 (8 * m + k)) = qN (y 41 0 m)
        · right
          refine ⟨(), by rw [hun, decide_eq_true d, cond_true], fun g t ht hf => ?_⟩
          by_cases e : t = k
          · subst e; exact (qh_dv hf).mp d
          · exact hI g t (by omega) hf
        · left
          refine ⟨1, by rw [hun, decide_eq_false d, cond_false], true, rfl, fun _ => ⟨c.1, fun g => d ((qh_dv c.2).mpr (g k hk c.2))⟩, fun _ => rfl⟩
      · right
        rw [decide_eq_false c] at h53
        refine ⟨(), ?_, fun g t ht hf => ?_⟩
        · unfold qf68_2
          rw [qv_g8 k hk, cond_false, h53, Option.bind_some, qv_eq0, Bool.not_false, cond_true, qv_s1]
          cases n <;> rfl
        · by_cases e : t = k
          · subst e; exact absurd ⟨g, hf⟩ c
          · exact hI g t (by omega) hf)
    (by
      intro n _ hI
      refine ⟨0, ?_, false, rfl, fun g => (by cases g), fun g => absurd (hI g.1) g.2⟩
      unfold qf68_2
      rw [qv_e8, cond_true]) 4096 0 () (by decide) (by decide) (fun _ t ht => absurd ht (Nat.not_lt_zero _))
  refine ⟨b, ?_, hb⟩
  rw [← e]
  unfold qf68
  exact hr
theorem qh_139 {x y : qp_S} (hM : qa_M x y) {m : Nat} (hm : m < 4) (hP : 0 < qN (y 41 0 m)) : ∃ b, qf139 (Int32.ofNat m) y = some (qv_b b) ∧ (b = true ↔ ¬ qh_b3 y m) := by
  have l0 : (0:Int32).toInt = 0 := rfl; have l1 : (1:Int32).toInt = 1 := rfl; have lm : (-1:Int32).toInt = -1 := rfl; have l3 : (3:Int32).toInt = 3 := rfl; have l4 : (4:Int32).toInt = 4 := rfl; have l5 : (5:Int32).toInt = 5 := rfl; have l6 : (6:Int32).toInt = 6 := rfl; have l7 : (7:Int32).toInt = 7 := rfl; have l8 : (8:Int32).toInt = 8 := rfl; have l15 : (15:Int32).toInt = 15 := rfl; have l16 : (16:Int32).toInt = 16 := rfl; have l32 : (32:Int32).toInt = 32 := rfl
  have hin4 : qm_inb (Int32.ofNat m) 4 = true := qv_inT m 4 hm (by decide)
  obtain ⟨r, hr, b, e, hb⟩ := qv_loop (fun n k (a : Int32) => qf139_4 n (Int32.ofNat m) a (Int32.ofNat k) y) 8 (fun k a => ∃ b, a = qv_b b ∧ (b = true ↔ ∀ t, t < k → 0 < qN (y 42 0 (8 * m + t)) → qN (y 42 0 (8 * m + t)) ∣ qN (y 41 0 m))) (fun r => ∃ b, r = qv_b b ∧ (b = true ↔ ¬ qh_b3 y m))
    (by
      rintro n k a hk ⟨b, rfl, hb⟩
      right
      obtain ⟨u1, u2, u3, u4, u5, u6⟩ := qh_mf hM hm hk
      have hin : qm_inb (Int32.ofNat (8 * m + k)) 32 = true := qv_inT _ 32 (by omega) (by decide)
      have hstep : ∀ c : Bool, (c = true ↔ (b = true ∧ (0 < qN (y 42 0 (8 * m + k)) → qN (y 42 0 (8 * m + k)) ∣ qN (y 41 0 m)))) → (c = true ↔ ∀ t, t < k + 1 → 0 < qN (y 42 0 (8 * m + t)) → qN (y 42 0 (8 * m + t)) ∣ qN (y 41 0 m)) := by
        intro c hc
        rw [hc, hb]
        constructor
        · rintro ⟨g1, g2⟩ t ht hf
          by_cases e : t = k
          · subst e; exact g2 hf
          · exact g1 t (by omega) hf
        · intro g
          exact ⟨fun t ht hf => g t (by omega) hf, fun hf => g k (by omega) hf⟩
      have hun : qf139_4 (n + 1) (Int32.ofNat m) (qv_b b) (Int32.ofNat k) y = (bif !b then qf139_4 n (Int32.ofNat m) 0 (Int32.ofNat (k + 1)) y else (bif qm_cmp .eq (Int32.ofNat (qN (y 42 0 (8 * m + k)))) 0 then qf139_4 n (Int32.ofNat m) 1 (Int32.ofNat (k + 1)) y else (if Int32.ofNat (qN (y 42 0 (8 * m + k))) = 0 then none else (bif qm_cmp .ne (Int32.ofNat (qN (y 41 0 m) % qN (y 42 0 (8 * m + k)))) 0 then qf139_4 n (Int32.ofNat m) 0 (Int32.ofNat (k + 1)) y else qf139_4 n (Int32.ofNat m) 1 (Int32.ofNat (k + 1)) y)))) := by
        rw [← qv_rem _ _ (by omega) (by omega), ← qv_eq0, ← u3, ← u4]
        unfold qf139_4
        rw [qv_g8 k hk, cond_false, qv_c8, if_pos hin, qv_tN _ (by omega), if_pos hin4, qv_tN m (by omega), qv_s1]
        cases n <;> rfl
      cases b with
      | false =>
        refine ⟨0, by rw [hun]; rfl, false, rfl, hstep false ⟨(fun g => by cases g), fun g => by cases g.1⟩⟩
      | true =>
        by_cases c : 0 < qN (y 42 0 (8 * m + k))
        · have tf := qv_tI (qN (y 42 0 (8 * m + k))) (by omega)
          have hfne : ¬ Int32.ofNat (qN (y 42 0 (8 * m + k))) = 0 := fun g => by have := qv_mi _ 0 g (by omega) (by omega); omega
          have hmod := Nat.mod_le (qN (y 41 0 m)) (qN (y 42 0 (8 * m + k)))
          have tm := qv_tI (qN (y 41 0 m) % qN (y 42 0 (8 * m + k))) (by omega)
          by_cases d : qN (y 41 0 m) % qN (y 42 0 (8 * m + k)) = 0
          · refine ⟨1, ?_, true, rfl, hstep true ⟨fun _ => ⟨rfl, fun _ => Nat.dvd_of_mod_eq_zero d⟩, fun _ => rfl⟩⟩
            rw [hun, Bool.not_true, cond_false, qu_eqF (by omega), cond_false, if_neg hfne, qu_neF (by omega), cond_false]
          · refine ⟨0, ?_, false, rfl, hstep false ⟨(fun g => by cases g), fun g => absurd (Nat.mod_eq_zero_of_dvd (g.2 c)) d⟩⟩
            rw [hun, Bool.not_true, cond_false, qu_eqF (by omega), cond_false, if_neg hfne, qu_neT (by omega), cond_true]
        · refine ⟨1, ?_, true, rfl, hstep true ⟨fun _ => ⟨rfl, fun g => absurd g c⟩, fun _ => rfl⟩⟩
          have e0 : qN (y 42 0 (8 * m + k)) = 0 := by omega
          rw [hun, e0]; rfl)
    (by
      rintro n a ⟨b, rfl, hb⟩
      refine ⟨qv_b b, ?_, b, rfl, hb.trans ⟨fun g g2 => g2.2 g, fun g => Classical.byContradiction (fun g2 => g ⟨hP, g2⟩)⟩⟩
      unfold qf139_4
      rw [qv_e8, cond_true]
      cases b <;> rfl) 4096 0 1 (by decide) (by decide) ⟨true, rfl, fun _ t ht => absurd ht (Nat.not_lt_zero _), fun _ => rfl⟩
  refine ⟨b, ?_, hb⟩
  rw [← e]
  unfold qf139
  exact hr
def qh_b5 (y : qp_S) (m : Nat) : Prop := 0 < qN (y 41 0 m) ∧ ¬ ∀ g, g < qN (y 44 0 m) → 0 < qN (y 41 0 (qN (y 43 0 (16 * m + 4 * g + 3))))
/-- what is read of a guard's aim -/
theorem qh_gf {x y : qp_S} (hM : qa_M x y) (hG : qa_G x y) {m g : Nat} (hm : m < 4) (hg : g < 4) : ∃ t P, t < 4 ∧ P ≤ 60 ∧ y 43 0 (16 * m + 4 * g + 3) = Int32.ofNat t ∧ x 25 (4 * m + g) 3 = Int32.ofNat t ∧ qN (y 43 0 (16 * m + 4 * g + 3)) = t ∧ y 41 0 t = Int32.ofNat P ∧ x 22 t 0 = Int32.ofNat P ∧ qN (y 41 0 t) = P := by
  obtain ⟨p, t, hp, ht, e1, e2⟩ := hG.2 (4 * m + g) (by omega)
  have f3 := hG.1 (4 * m + g) 3 (by omega) (by omega)
  rw [show 4 * (4 * m + g) + 3 = 16 * m + 4 * g + 3 by omega] at e2 f3
  obtain ⟨P, gg, p1, p2, p3, p4⟩ := hM.2.2.1 t ht
  exact ⟨t, P, ht, p1, e2, f3.trans e2, by rw [e2]; exact qv_tN t (by omega), p3, (hM.1 t).1.trans p3, by rw [p3]; exact qv_tN P (by omega)⟩
theorem qh_73 {x y : qp_S} (hM : qa_M x y) (hG : qa_G x y) {m : Nat} (hm : m < 4) : ∃ b, qf73 m x = some (qv_b b) ∧ (b = true ↔ ¬ ∀ g, g < qN (y 44 0 m) → 0 < qN (y 41 0 (qN (y 43 0 (16 * m + 4 * g + 3))))) := by
  have l0 : (0:Int32).toInt = 0 := rfl; have l1 : (1:Int32).toInt = 1 := rfl; have lm : (-1:Int32).toInt = -1 := rfl; have l3 : (3:Int32).toInt = 3 := rfl; have l4 : (4:Int32).toInt = 4 := rfl; have l5 : (5:Int32).toInt = 5 := rfl; have l6 : (6:Int32).toInt = 6 := rfl; have l7 : (7:Int32).toInt = 7 := rfl; have l8 : (8:Int32).toInt = 8 := rfl; have l15 : (15:Int32).toInt = 15 := rfl; have l16 : (16:Int32).toInt = 16 := rfl; have l32 : (32:Int32).toInt = 32 := rfl
  obtain ⟨pp, gz, p1, p2, p3, p4⟩ := hM.2.2.1 m hm
  have eg : qN (y 44 0 m) = gz := by rw [p4]; exact qv_tN gz (by omega)
  have egx : x 22 m 1 = Int32.ofNat gz := (hM.1 m).2.trans p4
  have tg := qv_tI gz (by omega)
  rw [eg]
  obtain ⟨r, hr, b, e, hb⟩ := qv_loop (fun n k (_ : Unit) => qf73_2 n m (Int32.ofNat k) x) gz (fun k _ => ∀ g, g < k → 0 < qN (y 41 0 (qN (y 43 0 (16 * m + 4 * g + 3))))) (fun r => ∃ b, r = qv_b b ∧ (b = true ↔ ¬ ∀ g, g < gz → 0 < qN (y 41 0 (qN (y 43 0 (16 * m + 4 * g + 3))))))
    (by
      intro n k _ hk hI
      have tk := qv_tI k (by omega)
      obtain ⟨t, P, h1, h2, h3, h4, h5, h6, h7, h8⟩ := qh_gf hM hG hm (show k < 4 by omega)
      have tP := qv_tI P (by omega)
      by_cases c : 0 < P
      · right
        refine ⟨(), ?_, fun g hg => ?_⟩
        · simp (disch := first | omega | assumption | decide) only [qf73_2, egx, qu_ltT, qu_ltF, qu_gtT, qu_gtF, qu_geT, qu_geF, qu_leT, qu_leF, qu_eqT, qu_eqF, qu_neT, qu_neF, qu_inT, qu_24T, qu_24F, qu_116T, qu_116F, qu_13T, qu_13F, qu_10F, qu_00T, qu_n10, qu_n00, Option.bind_some, qv_ct, qv_cf, if_true, qv_tN, qv_c6, qv_c4, qv_c8, qv_c32, qv_d4, qv_d16, qv_f4, qv_a1, qv_a2, qv_a3, qv_add, qv_inT, h4, qf67, h7]
        · by_cases e : g = k
          · subst e; rw [h5, h8]; exact c
          · exact hI g (by omega)
      · left
        refine ⟨1, ?_, true, rfl, fun _ g => ?_, fun _ => rfl⟩
        · simp (disch := first | omega | assumption | decide) only [qf73_2, egx, qu_ltT, qu_ltF, qu_gtT, qu_gtF, qu_geT, qu_geF, qu_leT, qu_leF, qu_eqT, qu_eqF, qu_neT, qu_neF, qu_inT, qu_24T, qu_24F, qu_116T, qu_116F, qu_13T, qu_13F, qu_10F, qu_00T, qu_n10, qu_n00, Option.bind_some, qv_ct, qv_cf, if_true, qv_tN, qv_c6, qv_c4, qv_c8, qv_c32, qv_d4, qv_d16, qv_f4, qv_a1, qv_a2, qv_a3, qv_add, qv_inT, h4, qf67, h7]
        · have := g k hk
          rw [h5, h8] at this; omega)
    (by
      intro n _ hI
      refine ⟨0, ?_, false, rfl, fun g => (by cases g), fun g => absurd hI g⟩
      simp (disch := first | omega | assumption | decide) only [qf73_2, egx, qu_ltT, qu_ltF, qu_gtT, qu_gtF, qu_geT, qu_geF, qu_leT, qu_leF, qu_eqT, qu_eqF, qu_neT, qu_neF, qu_inT, qu_24T, qu_24F, qu_116T, qu_116F, qu_13T, qu_13F, qu_10F, qu_00T, qu_n10, qu_n00, Option.bind_some, qv_ct, qv_cf, if_true, qv_tN, qv_c6, qv_c4, qv_c8, qv_c32, qv_d4, qv_d16, qv_f4, qv_a1, qv_a2, qv_a3, qv_add, qv_inT]) 4096 0 () (by omega) (by omega) (fun t ht => absurd ht (Nat.not_lt_zero _))
  refine ⟨b, ?_, hb⟩
  rw [← e]
  unfold qf73
  exact hr
theorem qh_143 {x y : qp_S} (hM : qa_M x y) (hG : qa_G x y) {m : Nat} (hm : m < 4) : ∃ b, qf143 (Int32.ofNat m) y = some (qv_b b) ∧ (b = true ↔ ∀ g, g < qN (y 44 0 m) → 0 < qN (y 41 0 (qN (y 43 0 (16 * m + 4 * g + 3))))) := by
  have l0 : (0:Int32).toInt = 0 := rfl; have l1 : (1:Int32).toInt = 1 := rfl; have lm : (-1:Int32).toInt = -1 := rfl; have l3 : (3:Int32).toInt = 3 := rfl; have l4 : (4:Int32).toInt = 4 := rfl; have l5 : (5:Int32).toInt = 5 := rfl; have l6 : (6:Int32).toInt = 6 := rfl; have l7 : (7:Int32).toInt = 7 := rfl; have l8 : (8:Int32).toInt = 8 := rfl; have l15 : (15:Int32).toInt = 15 := rfl; have l16 : (16:Int32).toInt = 16 := rfl; have l32 : (32:Int32).toInt = 32 := rfl
  obtain ⟨pp, gz, p1, p2, p3, p4⟩ := hM.2.2.1 m hm
  have eg : qN (y 44 0 m) = gz := by rw [p4]; exact qv_tN gz (by omega)
  have tg := qv_tI gz (by omega)
  have tm := qv_tI m (by omega)
  have hin4 : qm_inb (Int32.ofNat m) 4 = true := qv_inT m 4 hm (by decide)
  rw [eg]
  obtain ⟨r, hr, b, e, hb⟩ := qv_loop (fun n k (a : Int32) => qf143_4 n (Int32.ofNat m) a (Int32.ofNat k) y) gz (fun k a => ∃ b, a = qv_b b ∧ (b = true ↔ ∀ g, g < k → 0 < qN (y 41 0 (qN (y 43 0 (16 * m + 4 * g + 3)))))) (fun r => ∃ b, r = qv_b b ∧ (b = true ↔ ∀ g, g < gz → 0 < qN (y 41 0 (qN (y 43 0 (16 * m + 4 * g + 3))))))
    (by
      rintro n k a hk ⟨b, rfl, hb⟩
      right
      have tk := qv_tI k (by omega)
      obtain ⟨t, P, h1, h2, h3, h4, h5, h6, h7, h8⟩ := qh_gf hM hG hm (show k < 4 by omega)
      have tP := qv_tI P (by omega)
      have hstep : ∀ c : Bool, (c = true ↔ (b = true ∧ 0 < P)) → (c = true ↔ ∀ g, g < k + 1 → 0 < qN (y 41 0 (qN (y 43 0 (16 * m + 4 * g + 3))))) := by
        intro c hc
        rw [hc, hb]
        constructor
        · rintro ⟨g1, g2⟩ g hg
          by_cases e : g = k
          · subst e; rw [h5, h8]; exact g2
          · exact g1 g (by omega)
        · intro g
          refine ⟨fun t ht => g t (by omega), ?_⟩
          have := g k (by omega)
          rw [h5, h8] at this; exact this
      cases b with
      | false =>
        refine ⟨0, ?_, false, rfl, hstep false ⟨(fun g => by cases g), fun g => by cases g.1⟩⟩
        simp (disch := first | omega | assumption | decide) only [qf143_4, qu_ltT, qu_ltF, qu_gtT, qu_gtF, qu_geT, qu_geF, qu_leT, qu_leF, qu_eqT, qu_eqF, qu_neT, qu_neF, qu_inT, qu_24T, qu_24F, qu_116T, qu_116F, qu_13T, qu_13F, qu_10F, qu_00T, qu_n10, qu_n00, Option.bind_some, qv_ct, qv_cf, if_true, qv_tN, qv_c6, qv_c4, qv_c8, qv_c32, qv_d4, qv_d16, qv_f4, qv_a1, qv_a2, qv_a3, qv_add, qv_inT, p4, qv_eq0, Bool.not_false]
      | true =>
        by_cases c : 0 < P
        · refine ⟨1, ?_, true, rfl, hstep true ⟨fun _ => ⟨rfl, c⟩, fun _ => rfl⟩⟩
          simp (disch := first | omega | assumption | decide) only [qf143_4, qu_ltT, qu_ltF, qu_gtT, qu_gtF, qu_geT, qu_geF, qu_leT, qu_leF, qu_eqT, qu_eqF, qu_neT, qu_neF, qu_inT, qu_24T, qu_24F, qu_116T, qu_116F, qu_13T, qu_13F, qu_10F, qu_00T, qu_n10, qu_n00, Option.bind_some, qv_ct, qv_cf, if_true, qv_tN, qv_c6, qv_c4, qv_c8, qv_c32, qv_d4, qv_d16, qv_f4, qv_a1, qv_a2, qv_a3, qv_add, qv_inT, p4, qv_eq0, Bool.not_true, h3, h6]
        · refine ⟨0, ?_, false, rfl, hstep false ⟨(fun g => by cases g), fun g => absurd g.2 c⟩⟩
          simp (disch := first | omega | assumption | decide) only [qf143_4, qu_ltT, qu_ltF, qu_gtT, qu_gtF, qu_geT, qu_geF, qu_leT, qu_leF, qu_eqT, qu_eqF, qu_neT, qu_neF, qu_inT, qu_24T, qu_24F, qu_116T, qu_116F, qu_13T, qu_13F, qu_10F, qu_00T, qu_n10, qu_n00, Option.bind_some, qv_ct, qv_cf, if_true, qv_tN, qv_c6, qv_c4, qv_c8, qv_c32, qv_d4, qv_d16, qv_f4, qv_a1, qv_a2, qv_a3, qv_add, qv_inT, p4, qv_eq0, Bool.not_true, h3, h6])
    (by
      rintro n a ⟨b, rfl, hb⟩
      refine ⟨qv_b b, ?_, b, rfl, hb⟩
      unfold qf143_4
      rw [if_pos hin4, qv_tN m (by omega), p4, qu_geT (Int.le_refl _), cond_true]
      cases b <;> rfl) 4096 0 1 (by omega) (by omega) ⟨true, rfl, fun _ t ht => absurd ht (Nat.not_lt_zero _), fun _ => rfl⟩
  refine ⟨b, ?_, hb⟩
  rw [← e]
  unfold qf143
  exact hr
