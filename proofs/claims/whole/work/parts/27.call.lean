/-! calls: into the callee, and out of it -/
theorem qs_meth {s : State} {args : Array Value} (hts : ∀ w ∈ qw, w.before args s = true) {y : Nat} (hy : y < 169) : ∃ mk methk ck kY, s.methodNamed? (qt_y y) = some mk ∧ s.vm.method? mk = some methk ∧ methk.code = some ck ∧ ck.code = qt_bytes y ∧ ck.maxLocals = qt_maxL y ∧ ck.exceptionTable.toList = tableOf (qt_hraw y) ∧ methk.sig.returnType = qt_rty y ∧ methk.locks = false ∧ parseMethodDescriptor (qt_y y).desc = some methk.sig ∧ s.vm.classes[mk.cls]? = some kY ∧ kY.init = .initialized ∧ kY.name = (qt_y y).cls := by
  have h := hts _ (qo_code hy)
  have hini := hts _ (qo_m hy).1
  unfold qo_cond at h
  cases he : (qt_hraw y).isEmpty with
  | true =>
    rw [he] at h
    have h : (Cond.code (qt_y y) (qt_bytes y) (qt_maxL y) (qt_rty y)).before args s = true := h
    obtain ⟨mk, hn⟩ := Cond.code_named h
    obtain ⟨methM, cM, h1, h2, h3, h4, h5, h6, h7, h8⟩ := Cond.code_spec hn h
    obtain ⟨kP, hkP, hnm⟩ := className_of_methodNamed hn
    refine ⟨mk, methM, cM, kP, hn, h1, h2, h3, h4, ?_, h5, h6, h8, hkP, Cond.initialized_spec (findClass_of_methodNamed hn) hkP hini, hnm⟩
    have e0 : qt_hraw y = [] := by simpa using he
    have h9 : cM.exceptionTable = #[] := by simpa using h7
    rw [e0, h9]
    rfl
  | false =>
    rw [he] at h
    have h : (Cond.codeWith (qt_y y) (qt_bytes y) (qt_maxL y) (qt_rty y) (qt_hraw y)).before args s = true := h
    obtain ⟨mk, methM, cM, hn, h1, h2, h3, h4, h5, h6, h7, h8⟩ := Cond.codeWith_spec h
    obtain ⟨kP, hkP, hnm⟩ := className_of_methodNamed hn
    refine ⟨mk, methM, cM, kP, hn, h1, h2, h3, h4, ?_, h6, h7, h8, hkP, Cond.initialized_spec (findClass_of_methodNamed hn) hkP hini, hnm⟩
    rw [← h5]
    exact (table_eq _).symm
/-- what a run of the small machine is worth in a walk: by fuel -/
def qs_S (D : va_G) (cA : Nat → ClassId) (rc : Nat → Cell) (ra : Nat → Nat) (ro : Nat → Nat × (Nat → Int32)) (n : Nat) : Prop :=
  ∀ (d y : Nat) (x : qm_S) (r : qm_R), qm_run ro n d y x = some r → ∀ (p : Program) (l : Launch) (e : Env) (R : Room) (s : State) (m : MethodId) (args : Array Value) (below : List Frame) (meth : Method) (c : Code) (H : Heap) (locs : List Loc) (ls : Array Slot) (ad : Nat → Nat → Nat) (h0 : qm_H) (ad0 : Nat → Nat → Nat),
    qs_cx p R s m args meth c D cA rc ra ro y → l.flags = flags0 → c.exceptionTable.toList = tableOf (qt_hraw y) → d ≤ R.frames → 35 * d ≤ R.locals → r.2.2.1 ≤ R.cells → r.2.2.2 ≤ R.slots → qs_I D cA rc ra y h0 ad0 s x.2.1 x.2.2.1 x.2.2.2.1 H locs ls ad →
      W p l e R s m args below meth c H locs x.2.2.2.2.1 x.2.2.2.2.2 (qs_E D cA rc below args s y h0 ad0 r) (F0 m x.1 ls (x.2.2.1.map (tv ad)))
section Q6
variable {p : Program} {l : Launch} {e : Env} {R : Room} {s : State} {m : MethodId} {args : Array Value} {below : List Frame} {meth : Method} {c : Code} {H : Heap} {locs : List Loc} {cells slots : Nat} {Q : State → Prop} {U : State}
variable {pc : Nat} {ls : Array Slot} {D : va_G} {cA : Nat → ClassId} {rc : Nat → Cell} {ra : Nat → Nat} {h0 : qm_H} {ad0 ad : Nat → Nat → Nat} {ro : Nat → Nat × (Nat → Int32)} {y n d : Nat} {lv : qm_L} {st : List qm_V} {hp : qm_H} {kc : qm_C}
/-- the callee runs from its entry to its end -/
theorem qs_callee (IH : qs_S D cA rc ra ro n) (X : Stand p l e R s m args below meth c U locs cells slots) (hx : p.tables.exec = Jvm.exec) (hfl : l.flags = flags0) {g : JFrame} (hg : g.method = m) (hsize : g.locals.size = c.maxLocals) {ig : Instr} (hdg : decode c.code g.pc = .ok (ig, 3)) (hst : 2 * g.monitorRoom + (g.stack.map fun v => v.category).sum ≤ 8)
    (hts : ∀ w ∈ qw, w.before args s = true) (hkt : qs_kt D cA rc ra ro s) (hy : y < 169) {mk : MethodId} (hmk : s.methodNamed? (qt_y y) = some mk) (hd : d + 1 ≤ R.frames) (hlo : 35 * (d + 1) ≤ R.locals) {as : List qm_V} {r : qm_R} (hrun : qm_run ro n d y (0, qm_ent y as, [], hp, (0, 0)) = some r) (hce : cells + r.2.2.1 ≤ R.cells) (hsl : slots + r.2.2.2 ≤ R.slots)
    (hrep : qs_rep D cA rc ad hp U.heap) (hro : ∀ k, qk_tag k = 5 ∨ qk_tag k = 7 → 0 < hp.1 k ∧ ad k 0 = ra k) (has : ∀ v ∈ as, qs_wf hp v) (hac : ∀ v ∈ as, qm_cat v = 1) (hal : as.length = qt_na y) (acts : List Action) :
    ∃ t, Steps p.tables e below (doInvoke e (U.setTop g) acts mk (as.map (tv ad)).toArray).1 t ∧ qs_E D cA rc (.java g :: below) (as.map (tv ad)).toArray (U.calling g mk (as.map (tv ad)).toArray) y hp ad r t := by
  obtain ⟨mk', methk, ck, kY, g1, g2, g3, g4, g5, g6, g7, g8, g9, g10, g11, g12⟩ := qs_meth hts hy
  cases hmk.symm.trans g1
  obtain ⟨f1, f2, f3, f4, f5, f6, f7, f8⟩ := qo_m hy
  have hW := X.warmed
  have hmU : U.vm.method? mk = some methk := by rw [hW.alike.method?]; exact g2
  have hpl : U.plainMethod mk := by
    intro k hk
    obtain ⟨k', hk', he⟩ := hW.alike.2.2 _ _ g10
    cases hk.symm.trans hk'
    rw [show k.name = kY.name from by rw [he], g12, f3]
    rfl
  obtain ⟨ls, hent, hlv⟩ := qs_entry (ad := ad) (y := y) (as := as) mk (by rw [hal]; exact f7) hac
  obtain ⟨X', hdo⟩ := X.into hg hsize hdg (as.map (tv ad)).toArray (R' := { frames := d, cells := r.2.2.1, slots := r.2.2.2, locals := 35 * d }) hmU g3 g8 hpl hd (by rw [g5]; show _ + _ + _ + 35 * d ≤ _; omega) hce hsl
  have hvm : (U.calling g mk (as.map (tv ad)).toArray).vm = U.vm := rfl
  have hhp : (U.calling g mk (as.map (tv ad)).toArray).heap = U.heap := rfl
  have hWs : s.WarmedH (U.calling g mk (as.map (tv ad)).toArray).vm := hW
  have hwf : ∀ v, some v ∈ qm_ent y as → qs_wf hp v := by
    intro v hv
    rcases List.mem_append.mp hv with h | h
    · obtain ⟨w, hw, e⟩ := List.mem_map.mp h
      rw [← Option.some.inj e]
      exact has w hw
    · have := List.eq_of_mem_replicate h
      cases this
  have k1 := IH d y (0, qm_ent y as, [], hp, (0, 0)) r hrun p l e { frames := d, cells := r.2.2.1, slots := r.2.2.2, locals := 35 * d } (U.calling g mk (as.map (tv ad)).toArray) mk (as.map (tv ad)).toArray (.java g :: below) methk ck U.heap [] ls ad hp ad
    ⟨hx, g4, g5, by rw [← f2, hvm, hW.alike.findClass]; exact findClass_of_methodNamed g1, fun w hw => pay_in hts qo_self w hw _ _ hWs, qs_kt.warm hWs hkt, g7, g8, fun hc => by
      rcases f8 with ⟨q, -⟩ | ⟨q, -⟩ | ⟨q, -, q2, -⟩
      · unfold qt_ctor at hc; rw [q] at hc; cases hc
      · unfold qt_ctor at hc; rw [q] at hc; cases hc
      · rw [← q2]; exact (name_of_methodNamed g1 g2).1⟩ hfl g6 (Nat.le_refl _) (Nat.le_refl _) (Nat.le_refl _) (Nat.le_refl _)
    ⟨hlv, ⟨fun v hv => (by cases hv), hwf⟩, hrep, fun _ _ _ => rfl, va_S.rf, fun _ => Nat.le_refl _, fun k i h1 h2 _ => absurd h2 (Nat.not_lt.mpr h1), hro, fun _ => ⟨rfl, rfl, rfl, rfl⟩⟩
  obtain ⟨t, a1, a2⟩ := k1 _ (by simp [State.pushFrame, State.setFrames, State.setTop, State.modifyTopJava]) X'
  refine ⟨t, ?_, a2⟩
  rw [hdo acts, g5, hent]
  rw [g5, hent] at a1
  exact qs_up a1
end Q6
