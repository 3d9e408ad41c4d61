/-! how calls come to their callees -/
set_option maxRecDepth 100000 in
theorem qo_k2 : ∀ z, z < 169 → qt_kind z = 2 → (qt_hraw z).isEmpty = true ∧ qt_ret z = 0 := by decide +kernel
section Q8
variable {p : Program} {l : Launch} {e : Env} {R : Room} {s : State} {m : MethodId} {args : Array Value} {below : List Frame} {meth : Method} {c : Code} {H : Heap} {locs : List Loc} {cells slots : Nat}
variable {pc : Nat} {ls : Array Slot} {D : va_G} {cA : Nat → ClassId} {rc : Nat → Cell} {ra : Nat → Nat} {ro : Nat → Nat × (Nat → Int32)} {y z ix : Nat} {st rest as : List Value}
theorem qs_plen {z : Nat} {sig : MethodDescriptor} {k n : Nat} (h : (parseMethodDescriptor (qt_y z).desc).map (fun d => d.parameters.length) = some (n - k)) (hp : parseMethodDescriptor (qt_y z).desc = some sig) : n - k = sig.parameters.length := by
  rw [hp] at h
  exact (Option.some.inj h).symm
theorem qs_lkS (X : qs_cx p R s m args meth c D cA rc ra ro y) (hmet : qt_met (qt_own y) ix = some z) (hk : qt_kind z = 0) (hdg : decode (qt_bytes y) pc = .ok (.invokestatic ix, 3)) (hst : st = as.reverse ++ rest) (hal : as.length = qt_na z) : qs_lk p l e R s m args below meth c H locs cells slots z (F0 m pc ls st) rest as := by
  obtain ⟨hx, hb, hml, hown, hts, hkt, hret, hlkk, hnm⟩ := X
  obtain ⟨hz, hlink⟩ := qo_met hmet
  obtain ⟨mk, methk, ck, kY, g1, g2, g3, g4, g5, g6, g7, g8, g9, g10, g11, g12⟩ := qs_meth hts hz
  obtain ⟨f1, f2, f3, f4, f5, f6, f7, f8⟩ := qo_m hz
  have hstat : Cond.static (qt_y z) ∈ qw := by
    rcases f8 with ⟨-, q⟩ | ⟨q, -⟩ | ⟨q, -⟩
    · exact q
    · omega
    · omega
  have hs := Cond.static_spec g1 g2 (hts _ hstat)
  rw [hk] at f5
  have hlen : as.length = methk.sig.parameters.length := by rw [hal]; exact qs_plen (k := 0) f5 g9
  intro T hT XT
  rcases hlink with hl | ⟨-, hl⟩
  · obtain ⟨vm₁, X1, h1⟩ := XT.invokestatic hx hown (hts _ hl) g1 g2 hs g10 g11 f4 (g := F0 m pc ls st) rfl (argsL := as) (rest := rest) hlen hst (by rw [hb]; exact hdg)
    exact ⟨vm₁, mk, X1, g1, h1⟩
  · obtain ⟨vm₁, X1, h1⟩ := XT.invokestaticNest hx hown (va_Nw.use rfl (hkt.2.2.2.1 _ hl)) g1 g2 hs g10 g11 f4 (g := F0 m pc ls st) rfl (argsL := as) (rest := rest) hlen hst (by rw [hb]; exact hdg)
    exact ⟨vm₁, mk, X1, g1, h1⟩
theorem qs_lkV (X : qs_cx p R s m args meth c D cA rc ra ro y) (hmet : qt_met (qt_own y) ix = some z) (hk : qt_kind z = 1) (hdg : decode (qt_bytes y) pc = .ok (.invokevirtual ix, 3)) {b : Nat} (hst : st = as.reverse ++ .ref b :: rest) (hal : as.length + 1 = qt_na z) {cell : Cell} (hcell : H[b]? = some cell) (hobj : cell.vm.isStatics = false) (hcls : s.vm.findClass (qt_y z).cls = some cell.cls) : qs_lk p l e R s m args below meth c H locs cells slots z (F0 m pc ls st) rest (.ref b :: as) := by
  obtain ⟨hx, hb, hml, hown, hts, hkt, hret, hlkk, hnm⟩ := X
  obtain ⟨hz, hlink⟩ := qo_met hmet
  obtain ⟨mk, methk, ck, kY, g1, g2, g3, g4, g5, g6, g7, g8, g9, g10, g11, g12⟩ := qs_meth hts hz
  obtain ⟨f1, f2, f3, f4, f5, f6, f7, f8⟩ := qo_m hz
  obtain ⟨hins, hsel⟩ : Cond.instanceMethod (qt_y z) ∈ qw ∧ Cond.selects (qt_y z).cls (qt_y z) (qt_y z) ∈ qw := by
    rcases f8 with ⟨q, -⟩ | ⟨-, q1, q2, -⟩ | ⟨q, -⟩
    · omega
    · exact ⟨q1, q2⟩
    · omega
  have hl : Cond.methodLink (qt_cn (qt_own y)) ix (qt_y z) ∈ qw := by
    rcases hlink with q | ⟨q, -⟩
    · exact q
    · exact absurd hk q
  rw [hk] at f5
  have hlen : as.length = methk.sig.parameters.length := by rw [← qs_plen (k := 1) f5 g9]; omega
  obtain ⟨mk', methM, hnamed, hmethM, hstM, habM⟩ := Cond.instanceMethod_spec (hts _ hins)
  cases g1.symm.trans hnamed
  cases g2.symm.trans hmethM
  obtain ⟨c2, r2, m2, q1, q2, q3, q4, kP, hkP, hkPi⟩ := Cond.selects_spec (hts _ hsel)
  cases hcls.symm.trans q1
  cases (State.methodFound?_of_named g1 f4).symm.trans q2
  cases g1.symm.trans q3
  intro T hT XT
  have hselP : selectMethod e.platform s.vm cell.cls mk = .method mk := by rw [Launch.admits_selectMethod XT.admits]; exact q4
  obtain ⟨vm₁, X1, h1⟩ := XT.invokevirtual hx hown (hts _ hl) g1 g2 hstM hkP hkPi f4 (a := b) (cell := cell) (by rw [hT]; exact hcell) (fun z h => by rw [h] at hobj; cases hobj) hselP g2 habM hkP hkPi (g := F0 m pc ls st) rfl (argsL := as) (rest := rest) hlen hst (by rw [hb]; exact hdg)
  exact ⟨vm₁, mk, X1, g1, h1⟩
theorem qs_lkI (X : qs_cx p R s m args meth c D cA rc ra ro y) (hmet : qt_met (qt_own y) ix = some z) (hk : qt_kind z = 2) (hdg : decode (qt_bytes y) pc = .ok (.invokespecial ix, 3)) {b : Nat} (hst : st = as.reverse ++ .ref b :: rest) (hal : as.length + 1 = qt_na z) : qs_lk p l e R s m args below meth c H locs cells slots z (F0 m pc ls st) rest (.ref b :: as) := by
  obtain ⟨hx, hb, hml, hown, hts, hkt, hret, hlkk, hnm⟩ := X
  obtain ⟨hz, hlink⟩ := qo_met hmet
  obtain ⟨mk, methk, ck, kY, g1, g2, g3, g4, g5, g6, g7, g8, g9, g10, g11, g12⟩ := qs_meth hts hz
  obtain ⟨f1, f2, f3, f4, f5, f6, f7, f8⟩ := qo_m hz
  obtain ⟨hins, hnn⟩ : Cond.instanceMethod (qt_y z) ∈ qw ∧ (qt_y z).name = "<init>" := by
    rcases f8 with ⟨q, -⟩ | ⟨q, -⟩ | ⟨-, q1, q2, -⟩
    · omega
    · omega
    · exact ⟨q1, q2⟩
  rw [hk] at f5
  have hlen : ∀ sig, parseMethodDescriptor (qt_y z).desc = some sig → as.length = sig.parameters.length := fun sig hsig => by rw [← qs_plen (k := 1) f5 hsig]; omega
  obtain ⟨k1, k2⟩ := qo_k2 z hz hk
  have hcode : (Cond.code (qt_y z) (qt_bytes z) (qt_maxL z) none).before args s = true := by
    have h := hts _ (qo_code hz)
    unfold qo_cond at h
    rw [k1] at h
    unfold qt_rty at h
    rw [k2] at h
    exact h
  intro T hT XT
  have hpl : e.platform.magicAccessors = ({} : Platform).magicAccessors := by rw [XT.admits.platform]
  rcases hlink with hl | ⟨-, hl⟩
  · obtain ⟨mk', methM, cM, kP, vm₁, hnamed, -, -, -, -, -, -, -, hW₁, hstep₁⟩ := Steps.initColdArgs (e := e) XT.here hx XT.warmed hpl hown hnn f4 (hts _ hl) (hts _ hins) hcode (f := F0 m pc ls st) rfl hlen hst (by rw [hb]; exact hdg)
    exact ⟨vm₁, mk', XT.noted hW₁, hnamed, hstep₁⟩
  · obtain ⟨mk', methM, cM, kP, vm₁, hnamed, -, -, -, -, -, -, -, hW₁, hstep₁⟩ := Steps.initColdArgsNest (e := e) XT.here hx XT.warmed hpl hown hnn f4 (va_Nw.use rfl (hkt.2.2.2.1 _ hl)) (hts _ hins) hcode (f := F0 m pc ls st) rfl hlen hst (by rw [hb]; exact hdg)
    exact ⟨vm₁, mk', XT.noted hW₁, hnamed, hstep₁⟩
end Q8
