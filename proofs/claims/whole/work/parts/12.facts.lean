/-! the tables are right -/
/-- the words that a callee may take along -/
def qw : List Cond := lw_tbl.filter goodWord
theorem qo_in {i : Nat} {w : Cond} (h : tables_1[i]? = some w) (hg : goodWord w = true) : w ∈ qw :=
  List.mem_filter.mpr ⟨by unfold lw_tbl; exact List.mem_append_right _ (List.mem_of_getElem? h), hg⟩
theorem qo_good : GoodIn lw_tbl qw := fun w hw => ⟨(List.mem_filter.mp hw).1, good_of_word (List.mem_filter.mp hw).2⟩
theorem qo_self : GoodIn qw qw := fun w hw => ⟨hw, good_of_word (List.mem_filter.mp hw).2⟩
theorem qo_b2 {o n ix k : Nat} (h : ¬ (o < n ∧ ix < k)) : (Nat.blt o n && Nat.blt ix k) = false := by
  cases q : (Nat.blt o n && Nat.blt ix k) with
  | false => rfl
  | true => rw [Bool.and_eq_true, Nat.blt_eq, Nat.blt_eq] at q; exact absurd q h
theorem qo_b1 {o n : Nat} (h : ¬ o < n) : Nat.blt o n = false := by
  cases q : Nat.blt o n with
  | false => rfl
  | true => rw [Nat.blt_eq] at q; exact absurd q h
theorem qo_tag6 {k : Nat} (h : ¬ k < 80) : qk_tag k = 6 := by unfold qk_tag; rw [qo_b1 h]; rfl
theorem qo_klt {k : Nat} (h : qk_tag k ≠ 6) : k < 80 := by
  by_cases q : k < 80
  · exact q
  · exact absurd (qo_tag6 q) h
set_option maxRecDepth 100000 in
theorem qo_kn0 : ∀ k, k < 80 → qk_tag k = 0 → (qn_cls[qk_cls k]?).map (fun q => q.2.2) = some (qk_len k) := by decide +kernel
theorem qo_kn {k : Nat} (h : qk_tag k = 0) : ∃ C T, qn_cls[qk_cls k]? = some (C, T, qk_len k) := by
  have h1 := qo_kn0 k (qo_klt (by rw [h]; decide)) h
  cases q : qn_cls[qk_cls k]? with
  | none => rw [q] at h1; cases h1
  | some r =>
    obtain ⟨C, T, N⟩ := r
    rw [q] at h1
    cases h1
    exact ⟨C, T, rfl⟩
def qo_ckF (o ix : Nat) : Bool := match qt_fld o ix with
  | none => true
  | some (ci, j) => match qn_cls[ci]? with
    | none => false
    | some (C, T, N) => decide (j < N) && decide ((T j).1 = C) && decide (tables_1[qx_fld o ix]? = some (.fieldLink (qt_cn o) ix C (T j).2.1 (T j).2.2.1))
set_option maxRecDepth 100000 in
theorem qo_fld0 : ∀ o, o < 15 → ∀ ix, ix < 300 → qo_ckF o ix = true := by decide +kernel
theorem qo_fld {o ix ci j : Nat} (h : qt_fld o ix = some (ci, j)) : ∃ C T N, qn_cls[ci]? = some (C, T, N) ∧ j < N ∧ (T j).1 = C ∧ Cond.fieldLink (qt_cn o) ix C (T j).2.1 (T j).2.2.1 ∈ qw := by
  by_cases hb : o < 15 ∧ ix < 300
  · have h1 := qo_fld0 o hb.1 ix hb.2
    unfold qo_ckF at h1
    rw [h] at h1
    dsimp only at h1
    cases q : qn_cls[ci]? with
    | none => rw [q] at h1; cases h1
    | some r =>
      obtain ⟨C, T, N⟩ := r
      rw [q] at h1
      simp only [Bool.and_eq_true, decide_eq_true_eq] at h1
      exact ⟨C, T, N, rfl, h1.1.1, h1.1.2, qo_in h1.2 rfl⟩
  · unfold qt_fld at h
    rw [qo_b2 hb] at h
    cases h
def qo_ckC (ci : Nat) : Bool := match qn_cls[ci]? with
  | none => true
  | some (C, T, N) => decide (qt_cn ci = C) && decide (tables_1[qx_ins ci]? = some (.instantiable C N)) && decide (tables_1[qx_ini ci]? = some (.initialized C)) && (List.range N).all fun k => decide (parseFieldDescriptor (T k).2.2.1 = some (qk_fty ci k)) && decide ((T k).2.2.2 = qk_fin ci k) && decide (tables_1[qx_lay ci k]? = some (u_lay C T k)) && goodWord (u_lay C T k) && (List.range N).all fun b => decide (k = b) || decide ((T k).2.1 ≠ (T b).2.1)
set_option maxRecDepth 100000 in
theorem qo_cls0 : ∀ ci, ci < 12 → qo_ckC ci = true := by decide +kernel
theorem qo_clt {ci : Nat} {q : vw_C} (h : qn_cls[ci]? = some q) : ci < 12 := (List.getElem?_eq_some_iff.mp h).1
theorem qo_cls1 {ci : Nat} {C : String} {T : u_T} {N : Nat} (h : qn_cls[ci]? = some (C, T, N)) : qt_cn ci = C ∧ Cond.instantiable C N ∈ qw ∧ Cond.initialized C ∈ qw ∧ (∀ k, k < N → parseFieldDescriptor (T k).2.2.1 = some (qk_fty ci k) ∧ (T k).2.2.2 = qk_fin ci k ∧ u_lay C T k ∈ qw ∧ ∀ b, b < N → k ≠ b → (T k).2.1 ≠ (T b).2.1) := by
  have h1 := qo_cls0 ci (qo_clt h)
  unfold qo_ckC at h1
  rw [h] at h1
  simp only [Bool.and_eq_true, decide_eq_true_eq, List.all_eq_true, List.mem_range, Bool.or_eq_true] at h1
  refine ⟨h1.1.1.1, qo_in h1.1.1.2 rfl, qo_in h1.1.2 rfl, fun k hk => ?_⟩
  obtain ⟨⟨⟨⟨a1, a2⟩, a3⟩, a4⟩, a5⟩ := h1.2 k hk
  exact ⟨a1, a2, qo_in a3 a4, fun b hb hkb => (a5 b hb).resolve_left hkb⟩
theorem qo_lay {ci : Nat} {C : String} {T : u_T} {N : Nat} (h : qn_cls[ci]? = some (C, T, N)) : ∀ w ∈ u_ws C T N, w ∈ qw := by
  intro w hw
  obtain ⟨k, hk, rfl⟩ := List.mem_map.mp hw
  exact ((qo_cls1 h).2.2.2 k (List.mem_range.mp hk)).2.2.1
theorem qo_names {ci : Nat} {C : String} {T : u_T} {N : Nat} (h : qn_cls[ci]? = some (C, T, N)) : ∀ a, a < N → ∀ b, b < N → a ≠ b → (T a).2.1 ≠ (T b).2.1 := fun a ha b hb hab => ((qo_cls1 h).2.2.2 a ha).2.2.2 b hb hab
theorem qo_types {ci : Nat} {C : String} {T : u_T} {N : Nat} (h : qn_cls[ci]? = some (C, T, N)) : ∀ k, k < N → parseFieldDescriptor (T k).2.2.1 = some (qk_fty ci k) := fun k hk => ((qo_cls1 h).2.2.2 k hk).1
def qo_isRef (t : FieldType) : Bool := match t with
  | .object _ => true
  | .array _ => true
  | _ => false
set_option maxRecDepth 100000 in
theorem qo_ft0 : ∀ ci, ci < 12 → ∀ j, j < 40 → (qk_ft ci j = 0 → qk_fty ci j = .int) ∧ (qk_ft ci j = 1 → qk_fty ci j = .boolean) ∧ (qk_ft ci j = 2 → qo_isRef (qk_fty ci j) = true) := by decide +kernel
set_option maxRecDepth 100000 in
theorem qo_n40 : ∀ ci, ci < 12 → (qn_cls[ci]?).all (fun q => decide (q.2.2 ≤ 40)) = true := by decide +kernel
def qo_shape (v : qm_V) (w : Value) : Prop := match v with
  | .inl x => w = .int x
  | .inr (.inl (_ + 1, _)) => ∃ a, w = .ref a
  | _ => True
theorem qo_fits {y ci j : Nat} {C : String} {T : u_T} {N : Nat} {v : qm_V} {w : Value} (hc : qn_cls[ci]? = some (C, T, N)) (hj : j < N) (h : qm_fits y ci j v = true) (hw : qo_shape v w) :
    ((T j).2.2.2 = false ∨ ((T j).2.2.2 = true ∧ qt_ctor y = true ∧ qt_own y = ci)) ∧ narrow (qk_fty ci j) w = w ∧ fits (qk_fty ci j) w = true := by
  have hfin := ((qo_cls1 hc).2.2.2 j hj).2.1
  have h40 := qo_n40 ci (qo_clt hc)
  rw [hc] at h40
  have hN : N ≤ 40 := by simpa using h40
  obtain ⟨t0, t1, t2⟩ := qo_ft0 ci (qo_clt hc) j (by omega)
  unfold qm_fits at h
  rw [Bool.and_eq_true, Bool.or_eq_true, Bool.and_eq_true] at h
  obtain ⟨h1, h2⟩ := h
  refine ⟨?_, ?_⟩
  · rw [hfin]
    rcases h1 with h1 | ⟨h1, h3⟩
    · exact Or.inl (by simpa using h1)
    · cases hq : qk_fin ci j with
      | false => exact Or.inl rfl
      | true => exact Or.inr ⟨rfl, h1, by simpa using h3⟩
  · split at h2
    · rename_i x e
      have hw : w = .int x := hw
      subst hw
      rw [t0 e]
      exact ⟨rfl, rfl⟩
    · rename_i x e
      have hw : w = .int x := hw
      subst hw
      rw [t1 e]
      rw [Bool.or_eq_true, decide_eq_true_eq, decide_eq_true_eq] at h2
      rcases h2 with rfl | rfl
      · exact ⟨rfl, rfl⟩
      · exact ⟨rfl, rfl⟩
    · rename_i e
      obtain ⟨a, rfl⟩ := hw
      have h3 := t2 e
      revert h3
      cases qk_fty ci j <;> intro h3 <;> first | exact ⟨rfl, rfl⟩ | cases h3
    · cases h2
set_option maxRecDepth 100000 in
theorem qo_ty0 : ∀ k, k < 80 → (qk_tag k = 1 → qk_ty k = .int) ∧ (qk_tag k = 2 → qk_ty k = .boolean) ∧ (qk_tag k = 3 → qk_ty k = .long) ∧ (qk_tag k = 4 → qk_ty k = .object (qt_cn (qk_cls k)) ∧ qk_cls k < 12) := by decide +kernel
theorem qo_ty1 {k : Nat} (h : qk_tag k = 1) : qk_ty k = .int := (qo_ty0 k (qo_klt (by rw [h]; decide))).1 h
theorem qo_ty2 {k : Nat} (h : qk_tag k = 2) : qk_ty k = .boolean := (qo_ty0 k (qo_klt (by rw [h]; decide))).2.1 h
theorem qo_ty3 {k : Nat} (h : qk_tag k = 3) : qk_ty k = .long := (qo_ty0 k (qo_klt (by rw [h]; decide))).2.2.1 h
theorem qo_ty4 {k : Nat} (h : qk_tag k = 4) : qk_ty k = .object (qt_cn (qk_cls k)) := ((qo_ty0 k (qo_klt (by rw [h]; decide))).2.2.2 h).1
theorem qo_ty4c {k : Nat} {C : String} {T : u_T} {N : Nat} (h : qk_tag k = 4) (hc : qn_cls[qk_cls k]? = some (C, T, N)) : qk_ty k = .object C := by rw [qo_ty4 h, (qo_cls1 hc).1]
def qo_ckX (o ix : Nat) : Bool := match qt_cix o ix with
  | none => true
  | some ci => decide (tables_1[qx_cix o ix]? = some (.classLink (qt_cn o) ix (qt_cn ci)))
set_option maxRecDepth 100000 in
theorem qo_cix0 : ∀ o, o < 15 → ∀ ix, ix < 300 → qo_ckX o ix = true := by decide +kernel
theorem qo_cix {o ix ci : Nat} (h : qt_cix o ix = some ci) : Cond.classLink (qt_cn o) ix (qt_cn ci) ∈ qw := by
  by_cases hb : o < 15 ∧ ix < 300
  · have h1 := qo_cix0 o hb.1 ix hb.2
    unfold qo_ckX at h1
    rw [h] at h1
    exact qo_in (of_decide_eq_true h1) rfl
  · unfold qt_cix at h
    rw [qo_b2 hb] at h
    cases h
theorem qo_def (k j : Nat) : qk_def k j = vI 0 ∨ qk_def k j = vR 0 0 ∨ qk_def k j = vL 0 := by
  unfold qk_def
  split
  · exact Or.inl rfl
  · exact Or.inr (Or.inl rfl)
  · exact Or.inr (Or.inr rfl)
def qo_dv (n : Nat) : Value := match n with
  | 0 => .int 0
  | 1 => .null
  | _ => .long 0
set_option maxRecDepth 100000 in
theorem qo_dfl0 : ∀ k, k < 80 → qk_tag k = 0 → ∀ j, j < qk_len k → defaultValue (qk_fty (qk_cls k) j) = qo_dv (qk_dt k j) := by decide +kernel
theorem qo_dta {k : Nat} (h : 1 ≤ qk_tag k) (j : Nat) : qk_dt k j = bif Nat.beq (qk_tag k) 3 then 2 else bif Nat.beq (qk_tag k) 4 then 1 else 0 := by
  unfold qk_dt
  rw [show Nat.beq (qk_tag k) 0 = false from by cases q : qk_tag k with | zero => omega | succ n => rfl]
  rfl
set_option maxRecDepth 100000 in
theorem qo_arr0 : ∀ k, k < 80 → 1 ≤ qk_tag k → qk_tag k ≤ 3 → tables_1[bif Nat.beq (qk_tag k) 1 then qx_aI else bif Nat.beq (qk_tag k) 2 then qx_aZ else qx_aJ]? = some (.arrayClass (qk_ty k)) ∧ defaultValue (qk_ty k) = qo_dv (bif Nat.beq (qk_tag k) 3 then 2 else 0) := by decide +kernel
theorem qo_arr {k : Nat} (h1 : 1 ≤ qk_tag k) (h3 : qk_tag k ≤ 3) : Cond.arrayClass (qk_ty k) ∈ qw := qo_in (qo_arr0 k (qo_klt (by omega)) h1 h3).1 rfl
set_option maxRecDepth 100000 in
theorem qo_ov0 : ∀ k, k < 80 → qk_tag k = 4 → tables_1[qx_ov (qk_cls k)]? = some (.arrayOver (.object (qt_cn (qk_cls k)))) := by decide +kernel
theorem qo_ov {k : Nat} (h : qk_tag k = 4) : Cond.arrayOver (.object (qt_cn (qk_cls k))) ∈ lw_tbl := by unfold lw_tbl; exact List.mem_append_right _ (List.mem_of_getElem? (qo_ov0 k (qo_klt (by rw [h]; decide)) h))
set_option maxRecDepth 100000 in
theorem qo_len0 : ∀ k, k < 80 → qk_len k < 65536 := by decide +kernel
theorem qo_len (k : Nat) : qk_len k < 65536 := by
  by_cases h : k < 80
  · exact qo_len0 k h
  · unfold qk_len; rw [qo_b1 h]; exact (by decide : (0 : Nat) < 65536)
def qo_ckS (o ix : Nat) : Bool := match qt_sta o ix with
  | none => true
  | some k => (decide (k = 63) && decide (tables_1[qx_fld o ix]? = some (.fieldLink (qt_cn o) ix "PeriodKernel$Word" "TAKES" "[I"))) || (decide (k = 64) && decide (tables_1[qx_fld o ix]? = some (.fieldLink (qt_cn o) ix "PeriodKernel$Word" "LEAVES" "[I")))
set_option maxRecDepth 100000 in
theorem qo_sta0 : ∀ o, o < 15 → ∀ ix, ix < 300 → qo_ckS o ix = true := by decide +kernel
theorem qo_sta {o ix k : Nat} (h : qt_sta o ix = some k) : (k = 63 ∧ Cond.fieldLink (qt_cn o) ix "PeriodKernel$Word" "TAKES" "[I" ∈ qw) ∨ (k = 64 ∧ Cond.fieldLink (qt_cn o) ix "PeriodKernel$Word" "LEAVES" "[I" ∈ qw) := by
  by_cases hb : o < 15 ∧ ix < 300
  · have h1 := qo_sta0 o hb.1 ix hb.2
    unfold qo_ckS at h1
    rw [h] at h1
    simp only [Bool.and_eq_true, Bool.or_eq_true, decide_eq_true_eq] at h1
    rcases h1 with ⟨a, b⟩ | ⟨a, b⟩
    · exact Or.inl ⟨a, qo_in b rfl⟩
    · exact Or.inr ⟨a, qo_in b rfl⟩
  · unfold qt_sta at h
    rw [qo_b2 hb] at h
    cases h
def qo_ckN (o ix : Nat) : Bool := match qt_con o ix with
  | none => true
  | some v => decide (tables_1[qx_con o ix]? = some (.constant (qt_cn o) ix v))
set_option maxRecDepth 100000 in
theorem qo_con0 : ∀ o, o < 15 → ∀ ix, ix < 300 → qo_ckN o ix = true := by decide +kernel
theorem qo_con {o ix : Nat} {v : Int32} (h : qt_con o ix = some v) : Cond.constant (qt_cn o) ix v ∈ qw := by
  by_cases hb : o < 15 ∧ ix < 300
  · have h1 := qo_con0 o hb.1 ix hb.2
    unfold qo_ckN at h1
    rw [h] at h1
    exact qo_in (of_decide_eq_true h1) rfl
  · unfold qt_con at h
    rw [qo_b2 hb] at h
    cases h
