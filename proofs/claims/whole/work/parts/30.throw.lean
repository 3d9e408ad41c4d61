/-! a throw of our own -/
theorem qs_same {s s' : State} {a b : Nat} (h : s.sameButNew s' [] a b) {q : Nat} (hq : q < s.heap.size) : s'.heap[q]? = s.heap[q]? := by
  obtain ⟨-, -, -, -, -, h6⟩ := h
  have hc : s.heap[q]? = some s.heap[q] := Array.getElem?_eq_getElem hq
  obtain ⟨c', e1, e2, e3, e4⟩ := h6 q _ hc
  rw [e1, hc]
  congr 1
  rw [e2]
  have hsl : c'.slots = s.heap[q].slots := by
    apply Array.ext_getElem?
    intro i
    exact e4 i (fun z => by cases z)
  rw [hsl]
theorem qs_statics {C n d : String} {v : Value} {rc : Cell} {ra : Nat} {args : Array Value} {s : State} (h : qn_z1 C n d v rc ra s) (hc : s.heap[ra]? = some rc) : (Cond.laysStatic C n d).before args s = true ∧ (v.isRef = true → (Cond.isRef (.static C n d)).before args s = true) := by
  obtain ⟨cf, kf, fi, f, b1, b2, b3, b4, b5, b6, b7, b8, b9⟩ := h
  refine ⟨Cond.laysStatic_of b7 b1 b2 b4 hc b5 b8 (Array.getElem?_eq_some_iff.mp b6).1 b9, fun hv => ?_⟩
  have he : (Term.static C n d).eval args s none [] s = some v := Term.static_eval b1 b2 b4 hc b5 b6
  cases v <;> simp [Cond.before, Cond.holds, Cond.value, he] <;> cases hv
section Q9
variable {p : Program} {l : Launch} {e : Env} {R : Room} {s : State} {m : MethodId} {args : Array Value} {below : List Frame} {meth : Method} {c : Code} {H : Heap} {locs : List Loc}
variable {pc : Nat} {ls : Array Slot} {D : va_G} {cA : Nat → ClassId} {rc : Nat → Cell} {ra : Nat → Nat} {h0 : qm_H} {ad0 ad : Nat → Nat → Nat} {ro : Nat → Nat × (Nat → Int32)} {y k : Nat} {lv : qm_L} {hp : qm_H}
theorem qs_oatoms (hts : ∀ w ∈ qw, w.before args s = true) (hkt : qs_kt D cA rc ra ro s) (hc : s.heap[ra 66]? = some (rc 66)) (hk : 70 ≤ k) (hk2 : k ≤ 72) : ∀ w ∈ Bundle.ownAtoms "PeriodKernel" (bif Nat.beq k 70 then 192 else bif Nat.beq k 71 then 199 else 204) (qx_exn k) qx_names, w.before args s = true := by
  intro w hw
  have h1 : (qo_spw w || (decide (w ∈ tables_1) && goodWord w)) = true := by
    have : k = 70 ∨ k = 71 ∨ k = 72 := by omega
    rcases this with rfl | rfl | rfl
    · exact List.all_eq_true.mp qo_oa70 w hw
    · exact List.all_eq_true.mp qo_oa71 w hw
    · exact List.all_eq_true.mp qo_oa72 w hw
  obtain ⟨-, -, ⟨v1, i1, z1⟩, ⟨v2, i2, z2⟩⟩ := hkt.2.2.2.2.1
  rw [Bool.or_eq_true, Bool.and_eq_true, decide_eq_true_eq] at h1
  rcases h1 with h1 | ⟨h1, h2⟩
  · unfold qo_spw at h1
    simp only [Bool.or_eq_true, decide_eq_true_eq] at h1
    rcases h1 with (((h1 | h1) | h1) | h1) | h1
    · have h2 := hkt.2.2.2.2.2.2.2.2 w h1
      simp only [qn_nw, List.mem_cons, List.not_mem_nil, or_false] at h1
      rcases h1 with rfl | rfl | rfl | rfl | rfl | rfl <;> exact va_Nw.use rfl h2
    · rw [h1]; exact (qs_statics z1 hc).1
    · rw [h1]; exact (qs_statics z2 hc).1
    · rw [h1]; exact (qs_statics z1 hc).2 i1
    · rw [h1]; exact (qs_statics z2 hc).2 i2
  · exact hts w (qo_tin h1 h2)
theorem qs_throw (X : qs_cx p R s m args meth c D cA rc ra ro y) (hfl : l.flags = flags0) (htab : c.exceptionTable.toList = tableOf (qt_hraw y)) (hthr : qt_thr y pc = some k) (hd : 6 ≤ R.frames) (hlo : 210 ≤ R.locals) (hce : 1 ≤ R.cells) (hsl : 6 ≤ R.slots) (hpu : qt_pure y = true) (hI : qs_I D cA rc ra y h0 ad0 s lv [] hp H locs ls ad) :
    W p l e R s m args below meth c H locs 0 0 (qs_E D cA rc below args s y h0 ad0 (.inr k, qm_new hp k (fun _ => vI 0), (1, 6))) (F0 m pc ls []) := by
  have hI0 := hI
  obtain ⟨hx, hb, hml, hown, hts, hkt, hret, hlk, hnm⟩ := X
  obtain ⟨a1, a2, a3, a4, a5, a6, a7, a8, a9⟩ := hI
  obtain ⟨rfl, rfl, rfl, rfl⟩ := a9 hpu
  have hck : qo_ckT y pc = true := by
    by_cases hb2 : y < 170 ∧ pc < 64
    · exact qo_thr0 y hb2.1 pc hb2.2
    · exfalso
      unfold qt_thr at hthr
      rw [qo_b2 hb2] at hthr
      cases hthr
  unfold qo_ckT at hck
  rw [hthr] at hck
  simp only [Bool.and_eq_true, decide_eq_true_eq] at hck
  obtain ⟨⟨⟨⟨⟨⟨⟨⟨⟨⟨⟨k1, k2⟩, k3⟩, k4⟩, k5⟩, k6⟩, k7⟩, k8⟩, k9⟩, k10⟩, k11⟩, k12⟩ := hck
  rw [k3] at hown
  have hown : s.vm.findClass "PeriodKernel" = some m.cls := hown
  obtain ⟨q, hq, hq2⟩ := List.any_eq_true.mp k11
  rw [decide_eq_true_eq] at hq2
  obtain ⟨sa, hsa⟩ := hkt.2.2.2.2.2.2.1 q hq
  rw [hq2] at hsa
  obtain ⟨x1, x2⟩ : Cond.instantiable (qx_exn k) 6 ∈ tables_1 ∧ Cond.initialized (qx_exn k) ∈ tables_1 := by
    obtain ⟨i, hi, rfl⟩ : ∃ i, i < 3 ∧ k = 70 + i := ⟨k - 70, by omega, by omega⟩
    exact qo_xi i hi
  have hinst := hts _ (qo_tin x1 rfl)
  obtain ⟨cX, kX, hfc, hkX, hkind, -⟩ := Cond.instantiable_spec hinst
  have hcl := hts _ (qo_in k10 rfl)
  refine W.newcK hx hb hown hcl hinst (hts _ (qo_tin x2 rfl)) rfl (qo_dec k5) (by simpa using hce) (by simpa using hsl) hfc rfl fun H1 kC hkC e1 z1 o1 => ?_
  cases hkX.symm.trans hkC
  refine lv_dup hx hb (qo_dec k6) rfl ?_
  refine va_ldcS hx hb hown hsa (qo_dec k7) ?_
  obtain ⟨g1, g2⟩ := a8 66 (Or.inr (by decide))
  have hc66 : s.heap[ra 66]? = some (rc 66) := by
    rw [← g2]
    exact a3.1 66 0 g1
  intro T hT XT
  have htr : e.platform.stackTraces = false := Launch.traces_off hfl XT.admits
  have hempty : qt_hraw y = [] := by simpa using k4
  have hat := qs_oatoms (k := k) hts hkt hc66 k1 k2
  rw [← k12] at hat
  obtain ⟨U, u1, u2, u3, u4, u5, ce, u6, u7⟩ := XT.ctorThrowS hx htr hown (cls := qx_exn k) (names := qx_names) (by
      have : k = 70 ∨ k = 71 ∨ k = 72 := by omega
      rcases this with rfl | rfl | rfl <;> decide) (by decide) hat (fun z hz => by cases hz) hfc hkC (a := s.heap.size) (by rw [hT]; exact e1) (Nat.le_refl _) (msg := .ref sa) rfl (g := F0 m (pc + 3 + 1 + 2) ls [.ref sa, .ref s.heap.size, .ref s.heap.size]) rfl (by rw [hml]; exact a1.2.2.1.1) rfl rfl (rest := []) rfl (by rw [hb]; exact qo_dec k8) (by rw [hb]; exact qo_dec k9) (by rw [htab, hempty]; intro z hz; cases hz) (by show 2 + 3 < _; omega) (by show 2 * 0 + (1 + 0) + (13 * (2 + 1) + 42) ≤ _; omega) hlk
  have hsame : ∀ q, q < s.heap.size → U.heap[q]? = s.heap[q]? := fun q hq => qs_same u5 hq
  have hsz : s.heap.size ≤ U.heap.size := u5.2.1
  refine ⟨U, u1, s.heap.size, u2, u3, ⟨qs_nad hp ad k s.heap.size, ⟨qs_nad_ext hp ad k s.heap.size, ?_, ⟨hsz, fun q h1 _ => hsame q h1⟩, fun a => qs_new_cnt hp k _ a, ?_⟩, k1, k2, ?_, ?_, ce, u6, ?_, ?_⟩, u4, [], u5, fun q hq => by cases hq⟩
  · refine a3.new (fun j => trivial) (fun h6 => absurd ?_ h6) hsame
    have : k = 70 ∨ k = 71 ∨ k = 72 := by omega
    rcases this with rfl | rfl | rfl <;> decide
  · intro a i h1 h2 h3
    rcases qs_new_lt h2 with h2 | ⟨rfl, rfl⟩
    · exact absurd h2 (Nat.not_lt.mpr h1)
    · rw [qs_nad_self]
      exact Nat.le_refl _
  · show 0 < (qm_new hp k _).1 k
    simp [qm_new]
  · rw [show (qm_new hp k (fun _ => vI 0)).1 k - 1 = hp.1 k from by simp [qm_new]]
    exact qs_nad_self _ _ _ _
  · rw [u7.vm]; rfl
  · rw [u4.alike.findClass]; exact u7.cls
end Q9
