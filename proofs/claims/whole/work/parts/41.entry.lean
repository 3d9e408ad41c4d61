theorem qz_klt {k : Nat} (h : qk_tag k ≠ 6) : k < 80 := qo_klt h
theorem qz_kinds {args : Array Value} {s : State} (hts : ∀ w ∈ qw, w.before args s = true) : ∃ D : va_G, va_K D qn_cls [] s := by
  have hD : ∀ ci : Nat, ∃ x : ClassId × (Nat → Nat), ∀ q : vw_C, qn_cls[ci]? = some q → u_Kn s q.1 q.2.1 q.2.2 x.1 x.2 := by
    intro ci
    cases h : qn_cls[ci]? with
    | none => exact ⟨(0, fun _ => 0), fun q hq => by cases hq⟩
    | some q =>
      obtain ⟨C, T, N⟩ := q
      obtain ⟨cC, iS, hu⟩ := u_known hts (qo_lay h) (hts _ (qo_cls1 h).2.1)
      exact ⟨(cC, iS), fun q hq => by cases hq; exact hu⟩
  obtain ⟨F, hF⟩ := Classical.axiomOfChoice hD
  exact ⟨(fun ci => (F ci).1, fun ci => (F ci).2), fun ci q hq => hF ci q hq, fun k q hk => by cases hk⟩
theorem qz_arrays {args : Array Value} {s : State} (hts : ∀ w ∈ lw_tbl, w.before args s = true) : (∃ cA : Nat → ClassId, ∀ k, 1 ≤ qk_tag k → qk_tag k ≤ 4 → ArrOfT s (cA k) (qk_ty k) ∧ va_RA s (cA k) (qk_ty k)) ∧ ∀ k, qk_tag k = 4 → va_AO (qt_cn (qk_cls k)) s := by
  have ht : ∀ w ∈ tables_1, w.before args s = true := fun w hw => hts w (by unfold lw_tbl; exact List.mem_append_right _ hw)
  have prim : ∀ ty : FieldType, (Cond.arrayClass ty).before args s = true → ∃ x : ClassId, ArrOfT s x ty ∧ s.vm.findClass ("[" ++ ty.toString) = some x := by
    intro ty h
    obtain ⟨cA, kA, comp, h1, h2, h3⟩ := Cond.arrayClass_spec h
    exact ⟨cA, fun n z => ⟨fun k h => (by cases h), kA, h2, comp, h3⟩, h1⟩
  have hAO : ∀ k, qk_tag k = 4 → va_AO (qt_cn (qk_cls k)) s := by
    intro k h4
    have h1 := qz_arrs k (qz_klt (by rw [h4]; decide))
    unfold qz_ckA at h1
    rw [h4] at h1
    exact va_AO.of (ht _ (of_decide_eq_true h1))
  refine ⟨?_, hAO⟩
  have hA : ∀ k : Nat, ∃ x : ClassId, 1 ≤ qk_tag k → qk_tag k ≤ 4 → ArrOfT s x (qk_ty k) ∧ va_RA s x (qk_ty k) := by
    intro k
    by_cases hk : 1 ≤ qk_tag k ∧ qk_tag k ≤ 4
    · have h1 := qz_arrs k (qz_klt (by omega))
      have hq : qk_tag k = 1 ∨ qk_tag k = 2 ∨ qk_tag k = 3 ∨ qk_tag k = 4 := by omega
      rcases hq with q | q | q | q
      · unfold qz_ckA at h1
        rw [q] at h1
        obtain ⟨x, x1, x2⟩ := prim _ (ht _ (of_decide_eq_true h1))
        exact ⟨x, fun _ _ => by rw [qo_ty1 q]; exact ⟨x1, x2⟩⟩
      · unfold qz_ckA at h1
        rw [q] at h1
        obtain ⟨x, x1, x2⟩ := prim _ (ht _ (of_decide_eq_true h1))
        exact ⟨x, fun _ _ => by rw [qo_ty2 q]; exact ⟨x1, x2⟩⟩
      · unfold qz_ckA at h1
        rw [q] at h1
        obtain ⟨x, x1, x2⟩ := prim _ (ht _ (of_decide_eq_true h1))
        exact ⟨x, fun _ _ => by rw [qo_ty3 q]; exact ⟨x1, x2⟩⟩
      · obtain ⟨comp, cA, kA, h1, h2, h3, h4, h5⟩ := Cond.arrayOver_spec (hAO k q)
        exact ⟨cA, fun _ _ => by
          rw [qo_ty4 q]
          exact ⟨fun n z => ⟨fun k h => (by cases h), kA, h3, comp, h4⟩, kA, comp, h3, h4, h1, h5⟩⟩
    · exact ⟨0, fun h1 h2 => absurd ⟨h1, h2⟩ hk⟩
  exact Classical.axiomOfChoice hA
/-- all that the walk needs of the state at the entry -/
theorem qz_known {s : State} {b L : Nat} {xs : Nat → Int32} (hts : ∀ w ∈ lw_tbl, w.before #[Value.ref b] s = true) (hX : va_X b L xs s s.heap) (hgv : (Jvm.Cond.and given_1 narrow_1).before #[Value.ref b] s = true) :
    ∃ (D : va_G) (cA : Nat → ClassId) (rc : Nat → Cell) (ra : Nat → Nat), qs_kt D cA rc ra (qz_ro L xs) s ∧ ra 62 = b ∧ ∀ k, 62 ≤ k → k ≤ 66 → s.heap[ra k]? = some (rc k) := by
  have htw : ∀ w ∈ qw, w.before #[Value.ref b] s = true := fun w hw => hts w (List.mem_filter.mp hw).1
  have ht : ∀ w ∈ tables_1, w.before #[Value.ref b] s = true := fun w hw => hts w (by unfold lw_tbl; exact List.mem_append_right _ hw)
  have hf := flat_of_before _ hgv
  obtain ⟨D, hD⟩ := qz_kinds htw
  obtain ⟨⟨cA, hA⟩, hAO⟩ := qz_arrays hts
  obtain ⟨t3, c3, e3, m3, o3, n3, z3, v3⟩ := qz_arr (N := 17) (f := fun j => qz_tk.getD j 0) (by decide) (hf _ (qz_fl (.arrayOf (.static "PeriodKernel$Word" "TAKES" "[I") .int) (by simp))) (va_eqt (hf _ (qz_fl (.eq (.length (.static "PeriodKernel$Word" "TAKES" "[I")) (.int 17)) (by simp)))) (fun j hj => va_eqt (hf _ (qz_el j hj).1))
  obtain ⟨t4, c4, e4, m4, o4, n4, z4, v4⟩ := qz_arr (N := 17) (f := fun j => qz_lk.getD j 0) (by decide) (hf _ (qz_fl (.arrayOf (.static "PeriodKernel$Word" "LEAVES" "[I") .int) (by simp))) (va_eqt (hf _ (qz_fl (.eq (.length (.static "PeriodKernel$Word" "LEAVES" "[I")) (.int 17)) (by simp)))) (fun j hj => va_eqt (hf _ (qz_el j hj).2))
  obtain ⟨scr, s1, s2, s3, s4, s5⟩ := hX
  have hiW := ht _ (qz_ls (.initialized "PeriodKernel$Word") (by simp))
  have hiT := ht _ (qz_ls (.initialized "java/lang/Throwable") (by simp))
  obtain ⟨r5, c5, m5, k5⟩ := qz_st (ht _ (qz_ls (.laysStatic "PeriodKernel$Word" "TAKES" "[I") (by simp))) hiW e3
  obtain ⟨r5', c5', m5', k5'⟩ := qz_st (ht _ (qz_ls (.laysStatic "PeriodKernel$Word" "LEAVES" "[I") (by simp))) hiW e4
  cases qz_st2 k5 k5'
  cases m5.symm.trans m5'
  obtain ⟨w1, y1, i1⟩ := Cond.isRef_spec (hf _ (qz_fl (.isRef (.static "java/lang/Throwable" "UNASSIGNED_STACK" "[Ljava/lang/StackTraceElement;")) (by simp)))
  obtain ⟨w2, y2, i2⟩ := Cond.isRef_spec (hf _ (qz_fl (.isRef (.static "java/lang/Throwable" "SUPPRESSED_SENTINEL" "Ljava/util/List;")) (by simp)))
  obtain ⟨r6, c6, m6, k6⟩ := qz_st (ht _ (qz_ls (.laysStatic "java/lang/Throwable" "UNASSIGNED_STACK" "[Ljava/lang/StackTraceElement;") (by simp))) hiT y1
  obtain ⟨r6', c6', m6', k6'⟩ := qz_st (ht _ (qz_ls (.laysStatic "java/lang/Throwable" "SUPPRESSED_SENTINEL" "Ljava/util/List;") (by simp))) hiT y2
  cases qz_st2 k6 k6'
  cases m6.symm.trans m6'
  refine ⟨D, cA, fun k => bif Nat.beq k 62 then scr else bif Nat.beq k 63 then c3 else bif Nat.beq k 64 then c4 else bif Nat.beq k 65 then c5 else c6, fun k => bif Nat.beq k 62 then b else bif Nat.beq k 63 then t3 else bif Nat.beq k 64 then t4 else bif Nat.beq k 65 then r5 else r6, ⟨hD, hA, ?_, ?_, ⟨k5, k5', ⟨w1, i1, k6⟩, ⟨w2, i2, k6'⟩⟩, hAO, ?_, ?_, ?_⟩, rfl, ?_⟩
  · intro k hk
    rcases (qz_tag k (qz_klt (by rw [hk]; decide))).1 hk with rfl | rfl | rfl
    · exact ⟨s2, s3, s4, s5⟩
    · exact ⟨o3, n3, z3, v3⟩
    · exact ⟨o4, n4, z4, v4⟩
  · intro w hw
    exact va_Nw.of (qz_nest w hw).2 (ht _ (qz_nest w hw).1)
  · intro q hq
    obtain ⟨h1, h2⟩ := qz_str q hq
    obtain ⟨a, ca, cl, k, g1, g2⟩ := Cond.exactly_spec (hf _ h2)
    exact ⟨a, vk_R.of (A := #[Value.ref b]) (ht _ h1) g1⟩
  · intro i j hi hj hn
    exact va_Nc.of (hf _ (qz_nc i hi j hj hn))
  · intro w hw
    exact va_Nw.of (qz_nw w hw).2 (ht _ (qz_nw w hw).1)
  · intro k h1 h2
    have : k = 62 ∨ k = 63 ∨ k = 64 ∨ k = 65 ∨ k = 66 := by omega
    rcases this with rfl | rfl | rfl | rfl | rfl
    · exact s1
    · exact m3
    · exact m4
    · exact m5
    · exact m6
