/-! catching: the search through a method's table, its kinds resolved or not -/
theorem qs_tr {E : CtlPost} {e : Env} {d : Bool} {acts : List Action} {S : State} {f : JFrame} {a : Addr} {Q : Handler → Pre} {x : ExceptionTableEntry} {t : List ExceptionTableEntry} {cT : ClassId} {vm' : Vm} (hx : covers x f.pc = true) (h0 : x.catchType ≠ 0)
    (hg : (Jvm.resolveClass f.method.cls x.catchType).Gives e.toSetting S.vm (.ok cT) vm') (hr : vm'.classReady f.method.cls x.catchType cT) (hsz : vm'.classes.size ≤ S.vm.classes.size) :
    wp (findHandler.go f a (x :: t)) Q E e d acts S ↔ wp (findHandler.go f a (x :: t)) Q E e d acts (S.setVm vm') := by
  obtain ⟨ha, ht⟩ := hg.op (op := VmOp.resolveClass f.method.cls x.catchType) rfl
  obtain ⟨k, hkd, hres⟩ := hr
  simp only [covers] at hx
  have hm := resolveClass_memo (vm := vm') e hkd hres
  simp [findHandler.go, hx, h0, ha, ht, hsz, hm, VmOp.dirties, VmOp.acts]
  exact Iff.rfl
/-- what the search gives, the tables warmed by it -/
def qs_FC (e : Env) (S : State) (f : JFrame) (a : Addr) (pc : Nat) (vm' : Vm) : Prop := ∀ (Q : Handler → Pre) (E : CtlPost) (d : Bool) (acts : List Action), wp (findHandler f a) Q E e d acts S ↔ Q (.found pc) d acts (S.setVm vm')
theorem qs_thrcatch {e : Env} {S : State} {a : Addr} {f : JFrame} {r : List Frame} {pc : Nat} {vm' : Vm} (hfind : qs_FC e S f a pc vm') : (stepThrowing e S a (.java f :: r)).Is ((S.setVm vm').setFrames (.java { f with pc := pc, stack := [.ref a] } :: r)) [] := by
  simp only [stepThrowing, searchFrame, vmDo]
  generalize hr : Sem.go _ e false [] S = res
  obtain ⟨as, rfl, ha⟩ := Sem.eq_ok_of hr (a := Handler.found pc) (s' := S.setVm vm') (acts' := []) (by simp [hfind _ _ _ _])
  exact ⟨rfl, ha⟩
theorem qs_caught {tb : Tables} {e : Env} {T target : State} {g : JFrame} {c : Code} {below : List Frame} {a : Addr} {vm' : Vm} (h : At T g.method c below) {pc : Nat} (hfind : qs_FC e ((T.setTop g).pushFrame (.throwing a)) g a pc vm')
    (hrest : Steps tb e below ((T.setVm vm').setTop { g with pc := pc, stack := [.ref a] }) target) : Steps tb e below ((T.setTop g).pushFrame (.throwing a)) target := by
  obtain ⟨hgo, hw⟩ := h.throwing a
  refine Steps.head hgo hw ?_
  rw [stepThread_throwing (frames_entered h.top _), (qs_thrcatch (S := (T.setTop g).pushFrame (.throwing a)) hfind).1]
  obtain ⟨g₀, hg⟩ := Option.isSome_iff_exists.mp h.top
  obtain ⟨r, hr⟩ := State.topJava?_eq_some.mp hg
  have hr' : (T.setVm vm').frames = .java g₀ :: r := hr
  rw [State.setTop_of_frames _ hr'] at hrest
  have e1 : ∀ A B, ((T.setFrames A).setVm vm').setFrames B = (T.setVm vm').setFrames B := fun A B => by rw [show (T.setFrames A).setVm vm' = (T.setVm vm').setFrames A from rfl, State.setFrames_setFrames]
  rw [State.pushFrame, State.setTop_of_frames _ hr, State.setFrames_setFrames, hr, e1]
  exact hrest
/-- two tables, one by pool entries, one by kinds, entry for entry -/
def qs_rel (own : String) (hts : Cond → Prop) : List (Nat × Nat × Nat × Nat) → List (Nat × Nat × Nat × Nat) → Prop
  | [], [] => True
  | (a, b, t, ct) :: r, (a', b', t', j) :: r' => a = a' ∧ b = b' ∧ t = t' ∧ ct ≠ 0 ∧ 70 ≤ j ∧ j ≤ 72 ∧ hts (.classLink own ct (qx_exn j)) ∧ qs_rel own hts r r'
  | _, _ => False
section Q10
variable {p : Program} {l : Launch} {e : Env} {R : Room} {s : State} {m : MethodId} {args : Array Value}
theorem qs_search (hpl : e.platform.magicAccessors = ({} : Platform).magicAccessors) {own : String} (hown : s.vm.findClass own = some m.cls) {f : JFrame} (hf : f.method = m) {x : Addr} {cell : Cell} (hobj : cell.vm.isStatics = false) {k t : Nat} (hk : 70 ≤ k) (hk2 : k ≤ 72) (hcls : s.vm.findClass (qx_exn k) = some cell.cls) (hex : qn_ex s) :
    ∀ (rs ks : List (Nat × Nat × Nat × Nat)), qs_rel own (fun w => w.before args s = true) rs ks → qm_hnd k f.pc ks = some t → ∀ S : State, s.WarmedH S.vm → S.heap[x]? = some cell →
      ∃ vm', s.WarmedH vm' ∧ ∀ (Q : Handler → Pre) (E : CtlPost) (d : Bool) (acts : List Action), wp (findHandler.go f x (tableOf rs)) Q E e d acts S ↔ Q (.found t) d acts (S.setVm vm') := by
  subst hf
  intro rs
  induction rs with
  | nil =>
    intro ks hrel hh S hW hc
    cases ks with
    | nil => cases hh
    | cons q r => cases hrel
  | cons q rs ih =>
    intro ks hrel hh S hW hc
    obtain ⟨a, b, tt, ct⟩ := q
    cases ks with
    | nil => cases hrel
    | cons q' ks =>
      obtain ⟨a', b', t', j⟩ := q'
      obtain ⟨rfl, rfl, rfl, hct, hj, hj2, hlink, hrel⟩ := hrel
      unfold qm_hnd at hh
      by_cases hcov : a ≤ f.pc ∧ f.pc < b
      · have hx : covers (⟨a, b, tt, ct⟩ : ExceptionTableEntry) f.pc = true := by simp [covers, hcov.1, hcov.2]
        obtain ⟨cT, hcT, hcl⟩ := Cond.classLink_spec hown hlink e.platform hpl
        obtain ⟨dk, _, _, kt, hd, _, _, _, _, hkt, _, hopen⟩ := hcl.here
        have hcl₀ := hW.classLinks hcl
        have hW' : s.WarmedH (S.vm.noted f.method.cls ct (.cls cT)) := hW.noted hd hopen (State.rightAt_cls hcl)
        have hkc : ∃ kc, s.vm.classes[cell.cls]? = some kc := Vm.classAt_of_findClass hcls
        have hkT : ∃ kc, s.vm.classes[cT]? = some kc := ⟨kt, hkt⟩
        have hk1 : ∃ kc, (S.vm.noted f.method.cls ct (.cls cT)).classes[cell.cls]? = some kc := by
          obtain ⟨kc, h1⟩ := hkc
          obtain ⟨k', h2, -⟩ := hW'.alike.2.2 _ _ h1
          exact ⟨k', h2⟩
        have hk3 : ∃ kc, (S.vm.noted f.method.cls ct (.cls cT)).classes[cT]? = some kc := by
          obtain ⟨kc, h1⟩ := hkT
          obtain ⟨k', h2, -⟩ := hW'.alike.2.2 _ _ h1
          exact ⟨k', h2⟩
        have hstep := fun (Q : Handler → Pre) (E : CtlPost) (d : Bool) (acts : List Action) => (qs_tr (E := E) (d := d) (acts := acts) (Q := Q) (a := x) (t := tableOf rs) (x := ⟨a, b, tt, ct⟩) hx hct (resolveClass_links e.toSetting hcl₀) hcl₀.ready (by no_record)).trans
          (W.findHandler_go_class (s := S.setVm (S.vm.noted f.method.cls ct (.cls cT))) (f := f) (a := x) (x := ⟨a, b, tt, ct⟩) (c := cT) (cell := cell) hx hct hcl₀.ready hc (VmData.ne_statics_of hobj) hk1 hk3)
        by_cases hjk : j = k
        · subst hjk
          rw [if_pos ⟨hcov.1, hcov.2, rfl⟩] at hh
          cases hh
          cases hcT.symm.trans hcls
          refine ⟨_, hW', fun Q E d acts => (hstep Q E d acts).trans ?_⟩
          rw [if_pos (va_asg _ _)]
        · rw [if_neg (fun z => hjk z.2.2)] at hh
          obtain ⟨vm', hW2, h2⟩ := ih ks hrel hh (S.setVm (S.vm.noted f.method.cls ct (.cls cT))) hW' hc
          refine ⟨vm', hW2, fun Q E d acts => (hstep Q E d acts).trans ?_⟩
          have hno : (S.vm.noted f.method.cls ct (.cls cT)).assignable cell.cls cT = false := by
            obtain ⟨i, hi, rfl⟩ : ∃ i, i < 3 ∧ k = 70 + i := ⟨k - 70, by omega, by omega⟩
            obtain ⟨i', hi', rfl⟩ : ∃ i', i' < 3 ∧ j = 70 + i' := ⟨j - 70, by omega, by omega⟩
            obtain ⟨c1, c2, n1, n2, n3⟩ := hex.2.1 i i' hi hi' (fun z => hjk (by rw [z]))
            cases n1.symm.trans hcls
            cases n2.symm.trans hcT
            rw [hW'.alike.assignable]
            exact n3
          rw [if_neg (by show ¬ (S.vm.noted f.method.cls ct (.cls cT)).assignable cell.cls cT = true; rw [hno]; decide)]
          exact h2 Q E d acts
      · have hx : covers (⟨a, b, tt, ct⟩ : ExceptionTableEntry) f.pc = false := by
          cases hq : covers (⟨a, b, tt, ct⟩ : ExceptionTableEntry) f.pc with
          | false => rfl
          | true => simp [covers] at hq; exact absurd hq hcov
        rw [if_neg (fun z => hcov ⟨z.1, z.2.1⟩)] at hh
        obtain ⟨vm', hW2, h2⟩ := ih ks hrel hh S hW hc
        exact ⟨vm', hW2, fun Q E d acts => (W.findHandler_go_skip hx).trans (h2 Q E d acts)⟩
end Q10
