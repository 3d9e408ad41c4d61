/-! ends and entries of methods -/
theorem qs_up {tb : Tables} {e : Env} {below : List Frame} {g : JFrame} {a b : State} (h : Steps tb e (.java g :: below) a b) : Steps tb e below a b := by
  obtain ⟨n, h1, h2⟩ := h
  refine ⟨n, h1, fun k hk => ?_⟩
  obtain ⟨above, e1, e2, e3⟩ := h2 k hk
  refine ⟨above ++ [.java g], by rw [e1]; simp, by simp, fun a q => ?_⟩
  have := congrArg List.length q
  simp at this
  exact e2 this
def qn_isN : Cond → Bool
  | .methodLinkNest .. => true
  | _ => false
theorem qn_nest_all : qn_nest.all qn_isN = true := rfl
theorem qn_nestN {w : Cond} (h : w ∈ qn_nest) : ∃ a i x t, w = .methodLinkNest a i x t := by
  have h1 := List.all_eq_true.mp qn_nest_all w h
  cases w <;> first | exact ⟨_, _, _, _, rfl⟩ | cases h1
theorem qs_kt.warm {D : va_G} {cA : Nat → ClassId} {rc : Nat → Cell} {ra : Nat → Nat} {ro : Nat → Nat × (Nat → Int32)} {u U : State} (hW : u.WarmedH U.vm) (h : qs_kt D cA rc ra ro u) : qs_kt D cA rc ra ro U := by
  obtain ⟨h1, h2, h3, h4, h5, h6, h7⟩ := h
  refine ⟨va_K.moved hW.alike h1, fun k a b => ⟨arrOfT_moved hW.alike (h2 k a b).1, (h2 k a b).2.moved hW.alike⟩, fun k a => ?_, fun w hw => ?_, h5.moved hW.alike, fun k a => va_AO.moved hW.alike (h6 k a), h7.warm hW⟩
  · obtain ⟨g1, g2⟩ := h3 k a
    exact ⟨State.isArrayOf_alike hW.alike g1, g2⟩
  · have h8 := h4 w hw
    obtain ⟨a, i, x, t, rfl⟩ := qn_nestN hw
    exact va_Nw.warmM hW h8
theorem qs_lg {vs : List Value} (h : ∀ v ∈ vs, v.category = 1) : lg_sl vs = vs.map Slot.val := by
  induction vs with
  | nil => rfl
  | cons v r ih =>
    have hv : v.category = 1 := h v List.mem_cons_self
    have hr := ih fun w hw => h w (List.mem_cons_of_mem _ hw)
    unfold lg_sl at hr ⊢
    rw [List.flatMap_cons, hr, hv]
    rfl
/-- a method's entry -/
theorem qs_entry {ad : Nat → Nat → Nat} {y : Nat} {as : List qm_V} (m : MethodId) (hn : as.length ≤ qt_maxL y) (hc : ∀ v ∈ as, qm_cat v = 1) : ∃ ls, entryFrame m (as.map (tv ad)).toArray (qt_maxL y) = F0 m 0 ls [] ∧ qs_lv ad (qt_maxL y) ls (qm_ent y as) := by
  have hcat : ∀ v ∈ as.map (tv ad), v.category = 1 := by
    intro v hv
    obtain ⟨w, hw, rfl⟩ := List.mem_map.mp hv
    rw [qs_tv_cat]; exact hc w hw
  have hsl := qs_lg hcat
  have hlen : (lg_sl (as.map (tv ad))).length ≤ qt_maxL y := by rw [hsl]; simpa using hn
  have hl := lv_entry (as.map (tv ad)) (n := qt_maxL y) hlen
  refine ⟨_, lg_entry_eq m (as.map (tv ad)) (qt_maxL y), ?_, ?_, ⟨hl.1, hl.2.1, fun q h => by cases h⟩, ?_⟩
  · simp [qm_ent]; omega
  · intro v hv
    rcases List.mem_append.mp hv with h | h
    · obtain ⟨w, hw, e⟩ := List.mem_map.mp h
      rw [← Option.some.inj e]
      exact hc w hw
    · have := List.eq_of_mem_replicate h
      cases this
  · intro i v hv
    have hi : i < as.length := by
      rcases Nat.lt_or_ge i as.length with h | h
      · exact h
      · unfold qm_ent at hv
        rw [List.getElem?_append_right (by simpa using h)] at hv
        have := List.eq_of_mem_replicate (List.mem_of_getElem? hv)
        cases this
    unfold qm_ent at hv
    rw [List.getElem?_append_left (by simpa using hi), List.getElem?_map] at hv
    rw [hsl, List.getElem?_toArray, List.getElem?_append_left (by simpa using hi), List.getElem?_map, List.getElem?_map]
    cases hq : as[i]? with
    | none => rw [hq] at hv; cases hv
    | some w => rw [hq] at hv; cases hv; rfl
/-- where a callee may write -/
def qs_fr (y : Nat) (h0 : qm_H) (ad0 : Nat → Nat → Nat) (sz : Nat) : Addr → Prop := fun q => qs_A h0 ad0 sz q ∧ qt_pure y = false
/-- what holds behind a method: addresses ad', heap h' -/
def qs_B (D : va_G) (cA : Nat → ClassId) (rc : Nat → Cell) (h0 : qm_H) (ad0 : Nat → Nat → Nat) (h' : qm_H) (ad' : Nat → Nat → Nat) (st t : State) : Prop :=
  qs_ext h0 ad0 ad' ∧ qs_rep D cA rc ad' h' t.heap ∧ va_F (qs_A h0 ad0 st.heap.size) st t ∧ (∀ k, h0.1 k ≤ h'.1 k) ∧ ∀ k i, h0.1 k ≤ i → i < h'.1 k → qk_tag k ≤ 4 → st.heap.size ≤ ad' k i
def qs_Qr (D : va_G) (cA : Nat → ClassId) (rc : Nat → Cell) (y : Nat) (h0 : qm_H) (ad0 : Nat → Nat → Nat) (v : Option qm_V) (h' : qm_H) : Array Value → State → Outcome → State → Prop := fun _ st o t =>
  ∃ ad', o = .returned (v.map (tv ad')) ∧ qs_B D cA rc h0 ad0 h' ad' st t ∧ (∀ w, v = some w → qs_wf h' w) ∧ (qt_pure y = true → t.heap = st.heap ∧ h' = h0 ∧ ad' = ad0)
def qs_Qt (D : va_G) (cA : Nat → ClassId) (rc : Nat → Cell) (h0 : qm_H) (ad0 : Nat → Nat → Nat) (k : Nat) (h' : qm_H) (st : State) (x : Addr) (t : State) : Prop :=
  ∃ ad', qs_B D cA rc h0 ad0 h' ad' st t ∧ 70 ≤ k ∧ k ≤ 72 ∧ 0 < h'.1 k ∧ ad' k (h'.1 k - 1) = x ∧ ∃ cell, t.heap[x]? = some cell ∧ cell.vm.isStatics = false ∧ t.vm.findClass (qx_exn k) = some cell.cls
/-- the end of a run, as the machine has it -/
def qs_E (D : va_G) (cA : Nat → ClassId) (rc : Nat → Cell) (below : List Frame) (args : Array Value) (s : State) (y : Nat) (h0 : qm_H) (ad0 : Nat → Nat → Nat) (r : qm_R) : State → Prop := match r.1 with
  | .inl v => MQ below (qs_Qr D cA rc y h0 ad0 v r.2.1) args s r.2.2.1 r.2.2.2 (qs_fr y h0 ad0 s.heap.size)
  | .inr k => fun t => ∃ x, t.status = .running ∧ Ended t below (.threw x) ∧ qs_Qt D cA rc h0 ad0 k r.2.1 s x t ∧ s.WarmedH t.vm ∧ ∃ L, s.sameButNew ({ t with vm := s.vm } : State) L r.2.2.1 r.2.2.2 ∧ ∀ q ∈ L, qs_fr y h0 ad0 s.heap.size q.base
/-- where a walk stands, its writings are where they may be -/
theorem qs_I.wr {D : va_G} {cA : Nat → ClassId} {rc : Nat → Cell} {ra : Nat → Nat} {y : Nat} {h0 : qm_H} {ad0 : Nat → Nat → Nat} {s : State} {lv : qm_L} {st : List qm_V} {h : qm_H} {H : Heap} {locs : List Loc} {ls : Array Slot} {ad : Nat → Nat → Nat} (hI : qs_I D cA rc ra y h0 ad0 s lv st h H locs ls ad) : ∀ q ∈ locs, qs_fr y h0 ad0 s.heap.size q.base := by
  obtain ⟨a1, a2, a3, a4, a5, a6, a7, a8, a9⟩ := hI
  intro q hq
  refine ⟨a5.2.2 q hq, ?_⟩
  cases hp : qt_pure y with
  | false => rfl
  | true =>
    obtain ⟨-, e, -⟩ := a9 hp
    rw [e] at hq
    cases hq
/-- .. and the world is as an end has it -/
theorem qs_I.B {D : va_G} {cA : Nat → ClassId} {rc : Nat → Cell} {ra : Nat → Nat} {y : Nat} {h0 : qm_H} {ad0 : Nat → Nat → Nat} {s t : State} {lv : qm_L} {st : List qm_V} {h : qm_H} {H : Heap} {locs : List Loc} {ls : Array Slot} {ad : Nat → Nat → Nat} (hI : qs_I D cA rc ra y h0 ad0 s lv st h H locs ls ad) (ht : t.heap = H) : qs_B D cA rc h0 ad0 h ad s t := by
  obtain ⟨a1, a2, a3, a4, a5, a6, a7, a8, a9⟩ := hI
  exact ⟨a4, by rw [ht]; exact a3, a5.F ht, a6, a7⟩
section Q5
variable {p : Program} {l : Launch} {e : Env} {R : Room} {s : State} {m : MethodId} {args : Array Value} {below : List Frame} {meth : Method} {c : Code} {H : Heap} {locs : List Loc} {Q : State → Prop}
variable {pc : Nat} {ls : Array Slot} {D : va_G} {cA : Nat → ClassId} {rc : Nat → Cell} {ra : Nat → Nat} {h0 : qm_H} {ad0 ad : Nat → Nat → Nat} {ro : Nat → Nat × (Nat → Int32)} {y : Nat} {lv : qm_L} {hp : qm_H} {kc : qm_C}
theorem qs_ireturn (X : qs_cx p R s m args meth c D cA rc ra ro y) {v : Int32} (hdg : decode (qt_bytes y) pc = .ok (.ireturn, 1)) (hr : qt_ret y = 1 ∨ (qt_ret y = 2 ∧ (v = 0 ∨ v = 1))) (hI : qs_I D cA rc ra y h0 ad0 s lv [vI v] hp H locs ls ad) :
    W p l e R s m args below meth c H locs kc.1 kc.2 (qs_E D cA rc below args s y h0 ad0 (.inl (some (vI v)), hp, kc)) (F0 m pc ls ([vI v].map (tv ad))) := by
  obtain ⟨hx, hb, hml, hown, hts, hkt, hret, hlk, hnm⟩ := X
  have hq : ∀ t : State, t.heap = H → s.WarmedH t.vm → qs_Qr D cA rc y h0 ad0 (some (vI v)) hp args s (.returned (some (.int v))) t := fun t ht hW => by
    refine ⟨ad, rfl, hI.B ht, fun w hw => by cases hw; trivial, fun hpu => ?_⟩
    obtain ⟨-, -, -, -, -, -, -, -, a9⟩ := hI
    obtain ⟨e1, -, e3, e4⟩ := a9 hpu
    exact ⟨ht.trans e1, e3, e4⟩
  unfold qt_rty at hret
  rcases hr with hr | ⟨hr, hv⟩
  · rw [hr] at hret
    exact W.iret hx hb hret hq hI.wr hdg hlk
  · rw [hr] at hret
    exact W.zret (ty := .boolean) hx hb hret (by rcases hv with rfl | rfl <;> rfl) hq hI.wr hdg hlk
theorem qs_return (X : qs_cx p R s m args meth c D cA rc ra ro y) (hdg : decode (qt_bytes y) pc = .ok (.return_, 1)) (hr : qt_ret y = 0) (hI : qs_I D cA rc ra y h0 ad0 s lv [] hp H locs ls ad) :
    W p l e R s m args below meth c H locs kc.1 kc.2 (qs_E D cA rc below args s y h0 ad0 (.inl none, hp, kc)) (F0 m pc ls (([] : List qm_V).map (tv ad))) := by
  obtain ⟨hx, hb, hml, hown, hts, hkt, hret, hlk, hnm⟩ := X
  have hq : ∀ t : State, t.heap = H → s.WarmedH t.vm → qs_Qr D cA rc y h0 ad0 none hp args s (.returned none) t := fun t ht hW => by
    refine ⟨ad, rfl, hI.B ht, fun w hw => (by cases hw), fun hpu => ?_⟩
    obtain ⟨-, -, -, -, -, -, -, -, a9⟩ := hI
    obtain ⟨e1, -, e3, e4⟩ := a9 hpu
    exact ⟨ht.trans e1, e3, e4⟩
  unfold qt_rty at hret
  rw [hr] at hret
  exact W.vret hx hb hret hq hI.wr hdg hlk
end Q5
