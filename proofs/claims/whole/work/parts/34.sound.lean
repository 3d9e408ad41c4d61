/-! the small machine is sound: all steps together -/
section Q12
variable {p : Program} {l : Launch} {e : Env} {R : Room} {s : State} {m : MethodId} {args : Array Value} {below : List Frame} {meth : Method} {c : Code} {H : Heap} {locs : List Loc} {cells slots : Nat} {Q : State → Prop}
variable {pc : Nat} {ls : Array Slot} {D : va_G} {cA : Nat → ClassId} {rc : Nat → Cell} {ra : Nat → Nat} {h0 : qm_H} {ad0 ad : Nat → Nat → Nat} {ro : Nat → Nat × (Nat → Int32)} {y z ix n d k : Nat} {lv : qm_L} {st rest as : List qm_V} {hp : qm_H} {kc : qm_C}
theorem qs_lkA (X : qs_cx p R s m args meth c D cA rc ra ro y) (hmet : qt_met (qt_own y) ix = some z) {kd : Nat} (hk : qt_kind z = kd) {ig : Instr} (hig : kd = 0 ∧ ig = .invokestatic ix ∨ kd = 1 ∧ ig = .invokevirtual ix ∨ kd = 2 ∧ ig = .invokespecial ix) (hdg : decode (qt_bytes y) pc = .ok (ig, 3)) (hst : st = as.reverse ++ rest) (hal : as.length = qt_na z) (hrecv : qm_recv z as = true) (hI : qs_I D cA rc ra y h0 ad0 s lv st hp H locs ls ad) (has : ∀ w ∈ as, qs_wf hp w) :
    qs_lk p l e R s m args below meth c H locs cells slots z (F0 m pc ls (st.map (tv ad))) (rest.map (tv ad)) (as.map (tv ad)) := by
  have hz := (qo_met hmet).1
  rcases hig with ⟨rfl, rfl⟩ | ⟨rfl, rfl⟩ | ⟨rfl, rfl⟩
  · exact qs_lkS X hmet hk hdg (by rw [hst]; simp) (by rw [List.length_map]; exact hal)
  · unfold qm_recv at hrecv
    rw [hk] at hrecv
    simp only [Bool.or_eq_true, decide_eq_true_eq] at hrecv
    rcases hrecv with h | hrecv
    · cases h
    split at hrecv
    · rename_i k i as'
      simp only [Bool.and_eq_true, decide_eq_true_eq] at hrecv
      obtain ⟨ht, hcl⟩ := hrecv
      have hi : i < hp.1 (k + 1) := has _ List.mem_cons_self
      obtain ⟨C, T, hc0⟩ := qo_kn ht
      obtain ⟨cell, q1, q2, q3, q4⟩ := qs_cel0 (hI.2.2.1.1 (k + 1) i hi) ht
      obtain ⟨hS, hfc, kC, hkC, hkind⟩ := X.2.2.2.2.2.1.1.1 _ _ hc0
      refine qs_lkV X hmet hk hdg (b := ad (k + 1) i) (cell := cell) (as := as'.map (tv ad)) (rest := rest.map (tv ad)) (by rw [hst]; simp; rfl) (by rw [List.length_map]; simpa using hal) q1 (by rw [q3]; rfl) ?_
      rw [(qo_m hz).2.1, ← hcl, (qo_cls1 hc0).1, q2]
      exact hfc
    · cases hrecv
  · unfold qm_recv at hrecv
    rw [hk] at hrecv
    simp only [Bool.or_eq_true, decide_eq_true_eq] at hrecv
    rcases hrecv with h | hrecv
    · cases h
    split at hrecv
    · rename_i k i as'
      exact qs_lkI X hmet hk hdg (b := ad (k + 1) i) (as := as'.map (tv ad)) (rest := rest.map (tv ad)) (by rw [hst]; simp; rfl) (by rw [List.length_map]; simpa using hal)
    · cases hrecv
theorem qs_sum8 (hs : (rest.map qm_cat).sum ≤ 8) : (List.map (fun w : Value => w.category) (rest.map (tv ad))).sum ≤ 8 := by
  rw [List.map_map, show ((fun w : Value => w.category) ∘ tv ad) = qm_cat from funext fun w => qs_tv_cat ad w]
  exact hs
/-- Object.<init>, Math.max, Math.min -/
theorem qs_spc (X : qs_cx p R s m args meth c D cA rc ra ro y) {kd : Nat} {ig : Instr} (hig : kd = 0 ∧ ig = .invokestatic ix ∨ kd = 1 ∧ ig = .invokevirtual ix ∨ kd = 2 ∧ ig = .invokespecial ix) (hdg : decode (qt_bytes y) pc = .ok (ig, 3)) {pc' : Nat} {lv' : qm_L} {st' : List qm_V} {hp' : qm_H} {kc' : qm_C} (h : qm_spc d kd (qt_spc (qt_own y) ix) pc lv st hp kc = some (pc', lv', st', hp', kc')) (hd : d ≤ R.frames) (hlo : 35 * d ≤ R.locals) (hI : qs_I D cA rc ra y h0 ad0 s lv st hp H locs ls ad) (hcells : kc'.1 ≤ R.cells) (hslots : kc'.2 ≤ R.slots)
    (kk : ∀ (H1 : Heap) (locs1 : List Loc) (ls1 : Array Slot) (ad1 : Nat → Nat → Nat), qs_I D cA rc ra y h0 ad0 s lv' st' hp' H1 locs1 ls1 ad1 → W p l e R s m args below meth c H1 locs1 kc'.1 kc'.2 Q (F0 m pc' ls1 (st'.map (tv ad1)))) : W p l e R s m args below meth c H locs kc.1 kc.2 Q (F0 m pc ls (st.map (tv ad))) := by
  obtain ⟨hx, hb, hml, hown, hts, hkt, hret, hlkk, hnm⟩ := X
  have hsz : c.maxLocals = ls.size := by rw [hml]; exact hI.1.2.2.1.1.symm
  have hj : ∀ w ∈ ([.instanceMethod objectInit, .code objectInit ⟨#[0xb1]⟩ 1 none, .static Lib.Math.max.name, .static Lib.Math.min.name, .initialized "java/lang/Math", .code Lib.Math.max.name Lib.Math.max.code 2 (some .int), .code Lib.Math.min.name Lib.Math.min.code 2 (some .int)] : List Cond), w.before args s = true := fun w hw => hts w (qo_tin (qo_jdk w hw).1 (qo_jdk w hw).2)
  generalize hsp : qt_spc (qt_own y) ix = sp at h
  unfold qm_spc at h
  obtain ⟨h1, h⟩ := qs_if h
  split at h
  · obtain ⟨⟨a, b, r⟩, hq, h⟩ := qs_bd h
    obtain ⟨a, rfl, rfl⟩ := qs_pr hq
    obtain ⟨h8, h⟩ := qs_if h
    obtain ⟨rfl, rfl, rfl, rfl, rfl⟩ := qs_go h
    obtain ⟨-, hl⟩ | ⟨q, -⟩ | ⟨q, -⟩ := qo_spc (n := 0) hsp
    · have hig : ig = .invokespecial ix := by rcases hig with ⟨q, -⟩ | ⟨q, -⟩ | ⟨-, q⟩ <;> first | exact q | omega
      subst hig
      refine W.objInit hx hb hown (hts _ hl) (hj _ (by simp)) (hj _ (by simp)) (g := F0 m pc ls ((vR (a + 1) b :: r).map (tv ad))) rfl hsz.symm (a := ad (a + 1) b) (rest := r.map (tv ad)) rfl hdg (by omega) ?_ ?_
      · have := qs_sum8 (ad := ad) (rest := r) h8
        show 2 * 0 + _ + 12 ≤ _
        omega
      · exact kk H locs ls ad ⟨hI.1, hI.2.1.pop, hI.2.2⟩
    · omega
    · omega
  · obtain ⟨⟨a, b, r⟩, hq, h⟩ := qs_bd h
    have hq := qs_p2 hq
    subst hq
    obtain ⟨h8, h⟩ := qs_if h
    obtain ⟨rfl, rfl, rfl, rfl, rfl⟩ := qs_go h
    obtain ⟨q, -⟩ | ⟨-, hl⟩ | ⟨q, -⟩ := qo_spc (n := 1) hsp
    · omega
    · have hig : ig = .invokestatic ix := by rcases hig with ⟨-, q⟩ | ⟨q, -⟩ | ⟨q, -⟩ <;> first | exact q | omega
      subst hig
      have h88 := qs_sum8 (ad := ad) (rest := r) h8
      refine va_mmax hx hb hsz hown (hts _ hl) (hj _ (by simp)) (hj _ (by simp)) (hj _ (by simp)) (by omega) (by show _ + 13 ≤ _; omega) hcells hslots (x := a) (y := b) (rest := r.map (tv ad)) hdg ?_
      exact kk H locs ls ad ⟨hI.1, hI.2.1.pop.pop.psh trivial, hI.2.2⟩
    · omega
  · obtain ⟨⟨a, b, r⟩, hq, h⟩ := qs_bd h
    have hq := qs_p2 hq
    subst hq
    obtain ⟨h8, h⟩ := qs_if h
    obtain ⟨rfl, rfl, rfl, rfl, rfl⟩ := qs_go h
    obtain ⟨q, -⟩ | ⟨q, -⟩ | ⟨-, hl⟩ := qo_spc (n := 2) hsp
    · omega
    · omega
    · have hig : ig = .invokestatic ix := by rcases hig with ⟨-, q⟩ | ⟨q, -⟩ | ⟨q, -⟩ <;> first | exact q | omega
      subst hig
      have h88 := qs_sum8 (ad := ad) (rest := r) h8
      refine va_mmin hx hb hsz hown (hts _ hl) (hj _ (by simp)) (hj _ (by simp)) (hj _ (by simp)) (by omega) (by show _ + 13 ≤ _; omega) hcells hslots (x := a) (y := b) (rest := r.map (tv ad)) hdg ?_
      exact kk H locs ls ad ⟨hI.1, hI.2.1.pop.pop.psh trivial, hI.2.2⟩
  · cases h
end Q12
theorem qs_m1 {α : Type} {st : List qm_V} {f : Int32 → Option α} {z : α} (h : (match st with
    | [.inl v] => f v
    | _ => none) = some z) : ∃ v, st = [vI v] ∧ f v = some z := by
  split at h
  · exact ⟨_, rfl, h⟩
  · cases h
theorem qs_m0 {α : Type} {st : List qm_V} {f : Option α} {z : α} (h : (match st with
    | [] => f
    | _ => none) = some z) : st = [] ∧ f = some z := by
  split at h
  · exact ⟨rfl, h⟩
  · cases h
theorem qs_sound (D : va_G) (cA : Nat → ClassId) (rc : Nat → Cell) (ra : Nat → Nat) (ro : Nat → Nat × (Nat → Int32)) : ∀ n, qs_S D cA rc ra ro n := by
  intro n
  induction n with
  | zero => intro d y x r h; cases h
  | succ n IH =>
    intro d y x r h p l e R s m args below meth c H locs ls ad h0 ad0 X hfl htab hd hlo hce hsl hI
    have hcost := qs_run_cost h
    obtain ⟨pc, lv, st, hp, kc⟩ := x
    rw [qm_run] at h
    dsimp only at h hI hcost ⊢
    cases hs : qm_stp ro d y pc lv st hp kc with
    | none => rw [hs] at h; cases h
    | some q =>
      rw [hs] at h
      -- a next state
      have nx : ∀ (z : qm_S), q = .inr (.inl z) → (∀ (H1 : Heap) (locs1 : List Loc) (ls1 : Array Slot) (ad1 : Nat → Nat → Nat), qs_I D cA rc ra y h0 ad0 s z.2.1 z.2.2.1 z.2.2.2.1 H1 locs1 ls1 ad1 → W p l e R s m args below meth c H1 locs1 z.2.2.2.2.1 z.2.2.2.2.2 (qs_E D cA rc below args s y h0 ad0 r) (F0 m z.1 ls1 (z.2.2.1.map (tv ad1)))) ∧ z.2.2.2.2.1 ≤ R.cells ∧ z.2.2.2.2.2 ≤ R.slots := by
        intro z hz
        subst hz
        have hc2 := qs_run_cost h
        exact ⟨fun H1 locs1 ls1 ad1 hI1 => IH d y z r h p l e R s m args below meth c H1 locs1 ls1 ad1 h0 ad0 X hfl htab hd hlo hce hsl hI1, Nat.le_trans hc2.1 hce, Nat.le_trans hc2.2 hsl⟩
      have cl : ∀ {kd ix : Nat} {ig : Instr}, (kd = 0 ∧ ig = .invokestatic ix ∨ kd = 1 ∧ ig = .invokevirtual ix ∨ kd = 2 ∧ ig = .invokespecial ix) → decode (qt_bytes y) pc = .ok (ig, 3) → y < 170 → qm_call d kd y ix pc lv st hp kc = some q → W p l e R s m args below meth c H locs kc.1 kc.2 (qs_E D cA rc below args s y h0 ad0 r) (F0 m pc ls (st.map (tv ad))) := by
        intro kd ix ig hig hdg hy hq
        unfold qm_call at hq
        split at hq
        · rename_i z hmet
          obtain ⟨⟨as, rest⟩, ha, hq⟩ := qs_bd hq
          obtain ⟨⟨h1, h2, h3, h4, h5⟩, hq⟩ := qs_if hq
          cases hq
          obtain ⟨hal, hst⟩ := qs_args ha
          have hac := qs_cat1 as h3
          have has : ∀ w ∈ as, qs_wf hp w := fun w hw => hI.2.1.1 w (by rw [hst]; exact List.mem_append_left _ (List.mem_reverse.mpr hw))
          have hrest : ∀ w ∈ rest, qs_wf hp w := fun w hw => hI.2.1.1 w (by rw [hst]; exact List.mem_append_right _ hw)
          have lk : qs_lk p l e R s m args below meth c H locs kc.1 kc.2 z (F0 m pc ls (st.map (tv ad))) (rest.map (tv ad)) (as.map (tv ad)) := qs_lkA X hmet h1 hig hdg hst hal h2 hI has
          have hz := (qo_met hmet).1
          cases d with
          | zero => cases h
          | succ d =>
            dsimp only at h
            cases hc : qm_run ro n d z (0, qm_ent z as, [], hp, (0, 0)) with
            | none => rw [hc] at h; cases h
            | some q =>
              obtain ⟨o, h', c'⟩ := q
              rw [hc] at h
              dsimp only at h
              obtain v | k := o
              · have h : qm_run ro n (d + 1) y (pc + 3, lv, v.toList ++ rest, h', (kc.1 + c'.1, kc.2 + c'.2)) = some r := h
                have hc2 := qs_run_cost h
                exact qs_callR IH X hfl lk hdg hz hd hlo hc (Nat.le_trans hc2.1 hce) (Nat.le_trans hc2.2 hsl) hI has hrest hac hal h4 h5 fun H1 locs1 ls1 ad1 hI1 => IH (d + 1) y _ r h p l e R s m args below meth c H1 locs1 ls1 ad1 h0 ad0 X hfl htab hd hlo hce hsl hI1
              · unfold qm_back at h
                obtain ⟨hr1, hr2⟩ := qo_rel0 y hy
                have hrel := qo_relP _ _ hr1
                cases hh : qt_hnd y with
                | nil =>
                  rw [hh] at h hrel
                  cases h
                  have hraw : qt_hraw y = [] := by
                    cases hw : qt_hraw y with
                    | nil => rfl
                    | cons a b => rw [hw] at hrel; cases hrel
                  exact qs_callU IH X hfl htab hraw lk hdg hz hd hlo hc hce hsl hI has hac hal h4 h5
                | cons q0 qr =>
                  rw [hh] at h
                  dsimp only at h
                  have hpu : qt_pure y = false := by
                    rcases hr2 with w | w
                    · exfalso
                      have w : qt_hraw y = [] := by simpa using w
                      rw [w, hh] at hrel
                      cases hrel
                    · exact w
                  cases ht : qm_hnd k pc (q0 :: qr) with
                  | none => rw [ht] at h; cases h
                  | some t0 =>
                    rw [ht] at h
                    have h : qm_run ro n (d + 1) y (t0, lv, [vR k (h'.1 k - 1)], h', (kc.1 + c'.1, kc.2 + c'.2)) = some r := h
                    have hc2 := qs_run_cost h
                    exact qs_callC IH X hfl htab hpu hrel (by rw [hh]; exact ht) lk hdg hz hd hlo hc (Nat.le_trans hc2.1 hce) (Nat.le_trans hc2.2 hsl) hI has hac hal h4 fun H1 locs1 ls1 ad1 hI1 => IH (d + 1) y _ r h p l e R s m args below meth c H1 locs1 ls1 ad1 h0 ad0 X hfl htab hd hlo hce hsl hI1
        · unfold qm_next at hq
          cases hz : qm_spc d kd (qt_spc (qt_own y) ix) pc lv st hp kc with
          | none => rw [hz] at hq; cases hq
          | some z =>
            rw [hz] at hq
            cases hq
            obtain ⟨z1, z2, z3, z4, z5⟩ := z
            obtain ⟨n1, n2, n3⟩ := nx _ rfl
            exact qs_spc X hig hdg hz hd hlo hI n2 n3 n1
      unfold qm_stp at hs
      split at hs
      · rename_i k hthr
        obtain ⟨⟨e1, e2, e3, e4⟩, hs⟩ := qs_if hs
        cases hs
        cases h
        subst e2 e3
        exact qs_throw X hfl htab hthr (by omega) (by omega) hce hsl e4 hI
      · split at hs
        · cases hs
        · rename_i i len hcode
          have hdg := qo_dec hcode
          have hy := qo_ylt hcode
          split at hs
          · obtain ⟨rfl, hs⟩ := qs_if hs
            obtain ⟨v, rfl, hs2⟩ := qs_m1 (f := fun v => if qt_ret y = 1 ∨ qt_ret y = 2 ∧ (v = 0 ∨ v = 1) then some (Sum.inl (Sum.inl (some (vI v)), hp, kc)) else none) hs
            obtain ⟨hr, hs3⟩ := qs_if hs2
            cases hs3
            cases h
            exact qs_ireturn X hdg hr hI
          · obtain ⟨rfl, hs⟩ := qs_if hs
            obtain ⟨rfl, hs2⟩ := qs_m0 hs
            obtain ⟨hr, hs3⟩ := qs_if hs2
            cases hs3
            cases h
            exact qs_return X hdg hr hI
          · obtain ⟨rfl, hs⟩ := qs_if hs
            exact cl (Or.inl ⟨rfl, rfl⟩) hdg hy hs
          · obtain ⟨rfl, hs⟩ := qs_if hs
            exact cl (Or.inr (Or.inl ⟨rfl, rfl⟩)) hdg hy hs
          · obtain ⟨rfl, hs⟩ := qs_if hs
            exact cl (Or.inr (Or.inr ⟨rfl, rfl⟩)) hdg hy hs
          · unfold qm_next at hs
            cases hz : qm_1 ro y i len pc lv st hp kc with
            | none => rw [hz] at hs; cases hs
            | some z =>
              rw [hz] at hs
              cases hs
              obtain ⟨z1, z2, z3, z4, z5⟩ := z
              obtain ⟨n1, n2, n3⟩ := nx _ rfl
              exact qs_one X hdg hz hI n2 n3 n1
