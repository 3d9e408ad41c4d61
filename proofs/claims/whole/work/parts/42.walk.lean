/-! the claim out of the small machine's run -/
def R_law : String := "PeriodKernelLaw"
def lw_P (b : Addr) (xs : List Int32) (args : Array Value) (s : State) : Prop := args = #[.ref b] ∧ s.IntsAt b xs ∧ xs.length ≤ 3072 ∧ (Jvm.Cond.and given_1 narrow_1).before args s = true
def lw_Q (_ : Array Value) (s : State) (o : Outcome) (t : State) : Prop := o = .returned (some (.int 1)) ∧ Framed s o t [] 601024 7293034
def lw_Z (below : List Frame) (a : Array Value) (s : State) : State → Prop := fun t => ∃ o, t.status = .running ∧ Ended t below o ∧ lw_Q a s o t
/-- what holds at the law's entry: the machine, the code, the tables' words (any of lw_tbl by 'hts w (by decide +kernel)'), the script of L ints xs at the cell b, what the Statement gives of the start (any of its parts by flat_of_before) -/
def lw_At (p : Program) (s : State) (m : MethodId) (meth : Method) (c : Code) (b L : Nat) (xs : Nat → Int32) : Prop :=
  p.tables.exec = Jvm.exec ∧ c.code = code ∧ meth.sig.returnType = ret ∧ c.maxLocals = 7 ∧ s.vm.findClass R_law = some m.cls ∧ (∀ w ∈ lw_tbl, w.before #[Value.ref b] s = true) ∧ va_X b L xs s s.heap ∧ b < s.heap.size ∧ meth.locks = false ∧ c.exceptionTable.toList = [] ∧ (Jvm.Cond.and given_1 narrow_1).before #[Value.ref b] s = true
/-- WHAT IS LEFT: the small machine runs the law to its end with true -/
def qz_goal : Prop := ∀ (L : Nat) (xs : Nat → Int32), L ≤ 3072 → ∃ (h' : qm_H) (c' : qm_C), qm_E (qz_ro L xs) 12 169 (0, qm_ent 169 [vR 62 0], [], qz_h0, (0, 0)) (.inl (some (vI 1)), h', c') ∧ c'.1 ≤ 601024 ∧ c'.2 ≤ 7293034
theorem qz_cnt {k i : Nat} (h : i < qz_h0.1 k) : i = 0 ∧ 62 ≤ k ∧ k ≤ 66 := by
  unfold qz_h0 at h
  dsimp only at h
  cases hb : (Nat.ble 62 k && Nat.ble k 66) with
  | false => rw [hb] at h; exact absurd h (Nat.not_lt_zero _)
  | true =>
    rw [hb] at h
    rw [Bool.and_eq_true] at hb
    have h1 := Nat.le_of_ble_eq_true hb.1
    have h2 := Nat.le_of_ble_eq_true hb.2
    have h : i < 1 := h
    omega
theorem qz_cnt1 {k : Nat} (h1 : 62 ≤ k) (h2 : k ≤ 66) : 0 < qz_h0.1 k := by
  have : k = 62 ∨ k = 63 ∨ k = 64 ∨ k = 65 ∨ k = 66 := by omega
  rcases this with rfl | rfl | rfl | rfl | rfl <;> decide
theorem qz_new {s t : State} {L : List Loc} {a b a' b' : Nat} (h : s.sameButNew t L a b) (ha : a ≤ a') (hb : b ≤ b') (hL : ∀ q ∈ L, s.heap.size ≤ q.base) : s.sameButNew t [] a' b' := by
  obtain ⟨h1, h2, h3, h4, h5, h6⟩ := h
  refine ⟨h1, h2, by omega, h4, by omega, fun q c hc => ?_⟩
  obtain ⟨c', e1, e2, e3, e4⟩ := h6 q c hc
  refine ⟨c', e1, e2, e3, fun i _ => e4 i fun hi => ?_⟩
  have h7 := hL _ hi
  have h8 := (Array.getElem?_eq_some_iff.mp hc).1
  exact absurd h8 (Nat.not_lt.mpr h7)
theorem whole_start (hg : qz_goal) {p : Program} {e : Env} {s : State} {m : MethodId} {below : List Frame} {meth : Method} {c : Code} (l : Launch) (hfl : l.flags = flags0) {b L : Nat} {xs : Nat → Int32} (hL : L ≤ 3072) (C0 : lw_At p s m meth c b L xs) : W p l e room_1 s m #[Value.ref b] below meth c s.heap [] 0 0 (lw_Z below #[Value.ref b] s) (entryFrame m ([Value.ref b] : List Value).toArray 7) := by
  obtain ⟨hx, hb, hr, hml, hown, hts, hX, hbl, hlk, htab, hgv⟩ := C0
  obtain ⟨h', c', ⟨n, hrun⟩, hc1, hc2⟩ := hg L xs hL
  obtain ⟨D, cA, rc, ra, hkt, hra, hrc⟩ := qz_known hts hX hgv
  have htag : ∀ k, 62 ≤ k → k ≤ 66 → qk_tag k = 5 ∨ qk_tag k = 7 := fun k h1 h2 => (qz_tag k (by omega)).2.2 h1 h2
  have hcx : qs_cx p room_1 s m #[Value.ref b] meth c D cA rc ra (qz_ro L xs) 169 := ⟨hx, hb.trans qz_code, hml, hown, fun w hw => hts w (List.mem_filter.mp hw).1, hkt, hr, hlk, fun h => by cases h⟩
  obtain ⟨ls, hent, hlv⟩ := qs_entry (ad := fun k _ => ra k) (y := 169) (as := [vR 62 0]) m (by decide) (fun v hv => by rw [List.mem_singleton.mp hv]; rfl)
  have hent : entryFrame m ([Value.ref b] : List Value).toArray 7 = F0 m 0 ls [] := by
    rw [← hent, ← hra]
    rfl
  have hrep : qs_rep D cA rc (fun k _ => ra k) qz_h0 s.heap := by
    refine ⟨fun k i hi => ?_, fun k i k' i' hi hi' h6 h4 _ => ?_, fun k i j hi hj => ?_⟩
    · obtain ⟨-, h1, h2⟩ := qz_cnt hi
      have h3 := hrc k h1 h2
      unfold qs_cel
      rcases htag k h1 h2 with q | q
      · rw [q]; exact h3
      · rw [q]; exact h3
    · obtain ⟨-, h1, h2⟩ := qz_cnt hi'
      rcases htag k' h1 h2 with q | q <;> omega
    · obtain ⟨-, h1, h2⟩ := qz_cnt hi
      have h3 : qk_len k = 0 := by
        have : k = 62 ∨ k = 63 ∨ k = 64 ∨ k = 65 ∨ k = 66 := by omega
        rcases this with rfl | rfl | rfl | rfl | rfl <;> rfl
      omega
  have hI : qs_I D cA rc ra 169 qz_h0 (fun k _ => ra k) s (qm_ent 169 [vR 62 0]) [] qz_h0 s.heap [] ls (fun k _ => ra k) := by
    refine ⟨hlv, ⟨fun v hv => (by cases hv), fun v hv => ?_⟩, hrep, fun _ _ _ => rfl, va_S.rf, fun _ => Nat.le_refl _, fun k i h1 h2 _ => absurd h2 (Nat.not_lt.mpr h1), fun k hk => ⟨?_, rfl⟩, fun _ => ⟨rfl, rfl, rfl, rfl⟩⟩
    · rcases List.mem_append.mp hv with h | h
      · have h := List.mem_singleton.mp h
        cases h
        exact qz_cnt1 (by decide) (by decide)
      · have := List.eq_of_mem_replicate h
        cases this
    · have hk8 : k < 80 := qz_klt (by rcases hk with q | q <;> rw [q] <;> decide)
      rcases hk with q | q
      · rcases (qz_tag k hk8).1 q with rfl | rfl | rfl <;> exact qz_cnt1 (by decide) (by decide)
      · rcases (qz_tag k hk8).2.1 q with rfl | rfl <;> exact qz_cnt1 (by decide) (by decide)
  have hw := qs_sound D cA rc ra (qz_ro L xs) n 12 169 _ _ hrun p l e room_1 s m #[Value.ref b] below meth c s.heap [] ls (fun k _ => ra k) qz_h0 (fun k _ => ra k) hcx hfl htab (by decide) (by decide) hc1 hc2 hI
  intro T hT X
  obtain ⟨t, a1, o, b1, b2, ⟨ad', rfl, hB, hvw, hpu⟩, LL, ⟨f1, hW2, hsame⟩, hfree⟩ := hw T hT X
  rw [hent]
  refine ⟨t, a1, _, b1, b2, rfl, ⟨_, rfl⟩, hW2, qz_new hsame hc1 hc2 fun q hq => ?_⟩
  rcases (hfree q hq).1 with ⟨k, i, hi, h4, -⟩ | h
  · obtain ⟨-, h1, h2⟩ := qz_cnt hi
    rcases htag k h1 h2 with q | q <;> omega
  · exact h
set_option maxHeartbeats 4000000 in
theorem lw_walk (hg : qz_goal) (l : Launch) (hfl : l.flags = flags0) (b : Addr) (xs : List Int32) : MetFree l x (headSpec (Jvm.Cond.code x code maxLocals ret :: tables_1) room_1) (lw_P b xs) (fun _ _ _ _ _ => True) lw_Q := by
  refine MetFree.of_bodyS (code := code) (maxLocals := maxLocals) (ret := ret) (by decide) ?_ ?_
  · intro args s m h hn
    obtain ⟨meth, c, h1, h2, h3, h4, h5, h6, -, -⟩ := Cond.code_spec hn (atoms_spec (ws := Jvm.Cond.code x code maxLocals ret :: tables_1) h _ List.mem_cons_self)
    exact ⟨meth, c, h1, h2, h3, h4, h5, h6⟩
  · intro p e s m args below meth c s₁ B hml0 hP _
    obtain ⟨rfl, hx, hbd, hgv⟩ := hP
    obtain ⟨scr, harrAt, hlist, hof, hsmall⟩ := hx
    obtain ⟨hcb, hkn, -, -⟩ := State.arrayAt?_spec harrAt
    have hown : s.vm.findClass R_law = some m.cls := findClass_of_methodNamed B.named
    have hts0 : ∀ c ∈ (Jvm.Cond.code x code maxLocals ret :: tables_1), c.before #[Value.ref b] s = true := atoms_spec (ws := Jvm.Cond.code x code maxLocals ret :: tables_1) B.pre
    have hts : ∀ w ∈ lw_tbl, w.before #[Value.ref b] s = true := k2_hts_sels lw_privs (fun w hw => hts0 w (List.mem_cons_of_mem _ hw)) lw_privs_ok
    have htab : c.exceptionTable.toList = [] := by
      obtain ⟨meth', c', hm', hc', -, -, -, -, h7, -⟩ := Cond.code_spec B.named (hts0 _ List.mem_cons_self)
      cases B.method.symm.trans hm'
      cases (Stand.of_body B).code.symm.trans hc'
      simpa using h7
    have hml : c.maxLocals = 7 := B.maxLocals_eq (hts0 _ List.mem_cons_self)
    have X₀ : Stand p l e room_1 s m #[Value.ref b] below meth c s₁ [] 0 0 := Stand.of_body B
    have hh0 : s₁.heap = s.heap := by rw [B.state]; rfl
    have hsz : scr.slots.size = xs.length := by rw [← Array.length_toList, hlist, List.length_map]
    have hval : ∀ j : Nat, j < xs.length → scr.slots[j]? = some (.int (xs.getD j 0)) := fun j hj => by
      rw [← Array.getElem?_toList, hlist]
      simp [hj]
    have hbl : b < s.heap.size := (Array.getElem?_eq_some_iff.mp hcb).1
    have hX : va_X b xs.length (fun j => xs.getD j 0) s s.heap := ⟨scr, hcb, hof, hkn, hsz, hval⟩
    have K : W p l e room_1 s m #[Value.ref b] below meth c s₁.heap [] 0 0 (lw_Z below #[Value.ref b] s) (entryFrame m ([Value.ref b] : List Value).toArray 7) := by
      rw [hh0]
      exact whole_start hg l hfl hbd ⟨B.exec, B.bytes, B.returns, hml, hown, hts, hX, hbl, B.notSynchronized, htab, hgv⟩
    obtain ⟨t, a1, o, b1, b2, b3⟩ := K s₁ rfl X₀
    exact ⟨t, o, a1, b1, b2, b3⟩
theorem lw_pre_spec {args : Array Value} {s : State} (h : (Jvm.Cond.and given_1 narrow_1).before args s = true) (hr : rest_1_c.before args s = true) : ∃ (b : Addr) (xs : List Int32), lw_P b xs args s := by
  have hs := flat_of_before _ h
  have hq := flat_of_before _ hr
  have hc : (Cond.count 1).before args s = true := hs _ (by decide +kernel)
  have harr : (Cond.arrayOf (.arg 0) .int).before args s = true := hs _ (by decide +kernel)
  have hle : (Cond.le (.length (.arg 0)) (.int 3072)).before args s = true := hs _ (by decide +kernel)
  have hlen : (Cond.isInt (.length (.arg 0))).before args s = true := hq _ (by decide +kernel)
  have hall : (Cond.all (.arg 0) (.isInt (.elem (.arg 0) (.index 0)))).before args s = true := hq _ (by decide +kernel)
  obtain ⟨b, xs, hb, hx⟩ := State.ints_of_pre rfl harr hlen hall
  have hsm : xs.length < 2 ^ 31 := hx.choose_spec.2.2.2
  have hev : (Term.length (.arg 0)).eval args s none [] s = some (.int xs.length.toInt32) := hx.length_eval hb
  have hv := Cond.le_ints hev (show (Term.int 3072).eval args s none [] s = some (.int 3072) from rfl)
  have hd : xs.length.toInt32 ≤ 3072 := by
    simpa [Cond.before, Cond.holds, hv] using hle
  have hN : xs.length ≤ 3072 := (Int32.ofNat_le_ofNat hsm (by decide)).mp (show Int32.ofNat xs.length ≤ Int32.ofNat 3072 from hd)
  exact ⟨b, xs, Cond.one_arg hc (show args[0]? = some (.ref b) from hb), hx, hN, h⟩
theorem lw_comes (hg : qz_goal) (l : Launch) (hfl : l.flags = flags0) : Comes l x (Jvm.Cond.code x code maxLocals ret :: tables_1) room_1 (fun tb e args s => Calls_1 tb e args s ∧ rest_1 tb e args s ∧ Pre_1 tb e args s)
    (fun _ _ args s o t => lw_Q args s o t) := by
  intro p e ha hc hk s m args below hf hfit hheap happ hpre
  obtain ⟨b, xs, hP⟩ := lw_pre_spec hpre.2.2 hpre.2.1
  obtain ⟨k, o, h1, h2, h3, hQ⟩ := lw_walk hg l hfl b xs p e ha hc hk s m args below hf ((Spec.applies_iff_loose hf).mp happ).1 hP trivial
  exact ⟨k, o, h1, h2, h3, hQ⟩
theorem lw_frame {s t : State} {o : Outcome} {args : Array Value} (h : Framed s o t [] 601024 7293034) :
    Framed s o t (fieldLocs frame_1_writes args s ++ arrayLocs frame_1_arrays args s ++ staticLocs frame_1_statics s) 601024 7293034 := h
theorem lw_limb (hg : qz_goal) (L : Cond) (hL : ∀ (args : Array Value) (s t : State), L.after args s (.returned (some (.int 1))) t = true) :
    ArmFor flags0 classFile x code maxLocals ret World_1 tables_1 room_1 Calls_1 rest_1 Pre_1
      (fun tb e a s o t => postC L tb e a s o t ∧ Framed s o t (fieldLocs frame_1_writes a s ++ arrayLocs frame_1_arrays a s ++ staticLocs frame_1_statics s) 601024 7293034) := by
  intro l hfl _ _ p e ha hc hk s m args below hf hfit hheap happ hpre
  obtain ⟨k, o, h1, h2, h3, rfl, hF⟩ := lw_comes hg l hfl p e ha hc hk s m args below hf hfit hheap happ hpre
  exact ⟨k, _, h1, h2, h3, hL args s _, lw_frame hF⟩
theorem i_vc_of (hg : qz_goal) : Claimed_1_1 ∧ Claimed_1_2 := ⟨lw_limb hg limb_1_1 (fun args s t => by simp [limb_1_1, Cond.after, Cond.holds, Cond.value]), lw_limb hg limb_1_2 (fun args s t => Cond.after_iff.mpr (by
  first | (rw [show limb_1_2 = Cond.eq .result (.int 1) from rfl, Cond.eq_ints (x := 1) (y := 1) rfl rfl]; simp; done) | (simp [limb_1_2, Cond.value, Term.eval]; done)))⟩
