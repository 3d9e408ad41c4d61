/-! calls whose callee throws -/
theorem qs_I.B2 {D : va_G} {cA : Nat → ClassId} {rc : Nat → Cell} {ra : Nat → Nat} {y : Nat} {h0 : qm_H} {ad0 : Nat → Nat → Nat} {s st0 t : State} {lv : qm_L} {st : List qm_V} {h h' : qm_H} {H : Heap} {locs : List Loc} {ls : Array Slot} {ad ad' : Nat → Nat → Nat} (hI : qs_I D cA rc ra y h0 ad0 s lv st h H locs ls ad) (h00 : st0.heap = H) (hB : qs_B D cA rc h ad h' ad' st0 t) : qs_B D cA rc h0 ad0 h' ad' s t := by
  have hsub := fun (q : Nat) (hq : qs_A h ad H.size q) => hI.sub hq
  obtain ⟨a1, a2, a3, a4, a5, a6, a7, a8, a9⟩ := hI
  obtain ⟨b1, b2, b3, b4, b5⟩ := hB
  rw [h00] at b3 b5
  refine ⟨fun k i hi => ?_, b2, ⟨?_, fun q h1 h2 => ?_⟩, fun k => Nat.le_trans (a6 k) (b4 k), fun k i h1 h2 h3 => ?_⟩
  · rw [b1 k i (Nat.lt_of_lt_of_le hi (a6 k))]
    exact a4 k i hi
  · have h1 := b3.1
    rw [h00] at h1
    exact Nat.le_trans a5.1 h1
  · have h3 := b3.2 q (by rw [h00]; exact Nat.lt_of_lt_of_le h1 a5.1) (fun z => h2 (hsub q z))
    rw [h3, h00]
    exact a5.2.1 q h1 h2
  · rcases Nat.lt_or_ge i (h.1 k) with h9 | h9
    · rw [b1 k i h9]
      exact a7 k i h1 h9 h3
    · exact Nat.le_trans a5.1 (b5 k i h9 h2 h3)
theorem qs_heap_thr (T : State) (g : JFrame) (x : Addr) : ((T.setTop g).pushFrame (.throwing x)).heap = T.heap := by simp [State.pushFrame, State.setFrames, State.setTop, State.modifyTopJava]
theorem qs_vm_thr (T : State) (g : JFrame) (x : Addr) : ((T.setTop g).pushFrame (.throwing x)).vm = T.vm := by simp [State.pushFrame, State.setFrames, State.setTop, State.modifyTopJava]
section Q11
variable {p : Program} {l : Launch} {e : Env} {R : Room} {s : State} {m : MethodId} {args : Array Value} {below : List Frame} {meth : Method} {c : Code} {H : Heap} {locs : List Loc} {Q : State → Prop}
variable {pc : Nat} {ls : Array Slot} {D : va_G} {cA : Nat → ClassId} {rc : Nat → Cell} {ra : Nat → Nat} {h0 : qm_H} {ad0 ad : Nat → Nat → Nat} {ro : Nat → Nat × (Nat → Int32)} {y z n d k : Nat} {lv : qm_L} {st rest as : List qm_V} {hp : qm_H} {kc : qm_C}
/-- a callee throws: out of it, the note over the caller's frame -/
theorem qs_callT (IH : qs_S D cA rc ra ro n) (X : qs_cx p R s m args meth c D cA rc ra ro y) (hfl : l.flags = flags0) (lk : qs_lk p l e R s m args below meth c H locs kc.1 kc.2 z (F0 m pc ls (st.map (tv ad))) (rest.map (tv ad)) (as.map (tv ad))) {ig : Instr} (hdg : decode (qt_bytes y) pc = .ok (ig, 3)) (hz : z < 169)
    (hd : d + 1 ≤ R.frames) (hlo : 35 * (d + 1) ≤ R.locals) {h' : qm_H} {c' : qm_C} (hrun : qm_run ro n d z (0, qm_ent z as, [], hp, (0, 0)) = some (.inr k, h', c')) (hce : kc.1 + c'.1 ≤ R.cells) (hsl : kc.2 + c'.2 ≤ R.slots)
    (hI : qs_I D cA rc ra y h0 ad0 s lv st hp H locs ls ad) (has : ∀ w ∈ as, qs_wf hp w) (hac : ∀ w ∈ as, qm_cat w = 1) (hal : as.length = qt_na z) (hsum : (rest.map qm_cat).sum ≤ 8)
    (kk : ∀ (T' : State) (L : List Loc) (x : Addr) (ad' : Nat → Nat → Nat) (st0 t : State), Stand p l e R s m args below meth c T' (locs ++ L) (kc.1 + c'.1) (kc.2 + c'.2) → st0.heap = H → t.heap = T'.heap → t.vm = T'.vm → qs_B D cA rc hp ad h' ad' st0 t → (∀ q ∈ L, qs_fr z hp ad H.size q.base) → 70 ≤ k → k ≤ 72 → 0 < h'.1 k → ad' k (h'.1 k - 1) = x → (∃ cell, t.heap[x]? = some cell ∧ cell.vm.isStatics = false ∧ t.vm.findClass (qx_exn k) = some cell.cls) →
      ∃ t2, Steps p.tables e below ((T'.setTop (F0 m pc ls (rest.map (tv ad)))).pushFrame (.throwing x)) t2 ∧ Q t2) :
    W p l e R s m args below meth c H locs kc.1 kc.2 Q (F0 m pc ls (st.map (tv ad))) := by
  obtain ⟨hx, hb, hml, hown, hts, hkt, hret, hlkk, hnm⟩ := X
  intro T hT XT
  obtain ⟨vm₁, mk, X1, hmk, hst1⟩ := lk T hT XT
  have hsz : ls.size = c.maxLocals := by rw [hml]; exact hI.1.2.2.1.1
  have hcat : (List.map (fun w : Value => w.category) (rest.map (tv ad))).sum ≤ 8 := by
    rw [List.map_map, show ((fun w : Value => w.category) ∘ tv ad) = qm_cat from funext fun w => qs_tv_cat ad w]
    exact hsum
  have hro : ∀ k, qk_tag k = 5 ∨ qk_tag k = 7 → 0 < hp.1 k ∧ ad k 0 = ra k := by
    intro k hk
    obtain ⟨-, -, -, a4, -, a6, -, a8, -⟩ := hI
    obtain ⟨g1, g2⟩ := a8 k hk
    exact ⟨Nat.lt_of_lt_of_le g1 (a6 k), (a4 k 0 g1).trans g2⟩
  obtain ⟨t, a1, a2⟩ := qs_callee IH X1 hx hfl (g := F0 m pc ls (rest.map (tv ad))) rfl hsz (by rw [hb]; exact hdg) (by show 2 * 0 + (List.map (fun w : Value => w.category) (rest.map (tv ad))).sum ≤ 8; omega) hts hkt hz hmk hd hlo hrun hce hsl (by show qs_rep D cA rc ad hp T.heap; rw [hT]; exact hI.2.2.1) hro has hac hal []
  obtain ⟨x, b1, b2, ⟨ad', hB, k1, k2, k3, k4, k5⟩, hW2, L, hsame, hfree⟩ := a2
  obtain ⟨T', X2, hW3, -, ht⟩ := X1.outOfThrown rfl b2 hW2 hsame
  obtain ⟨t2, c1, c2⟩ := kk T' L x ad' ((T.setVm vm₁).calling (F0 m pc ls (rest.map (tv ad))) mk (as.map (tv ad)).toArray) t X2 hT (by rw [ht]; exact qs_heap_thr _ _ _) (by rw [ht]; exact qs_vm_thr _ _ _) hB (fun q hq => by
    have := hfree q hq
    rw [show ((T.setVm vm₁).calling (F0 m pc ls (rest.map (tv ad))) mk (as.map (tv ad)).toArray).heap.size = H.size from by rw [← hT]; rfl] at this
    exact this) k1 k2 k3 k4 k5
  refine ⟨t2, hst1 t2 fun acts => ?_, c2⟩
  rw [doInvoke_state]
  refine a1.trans ?_
  rw [ht]
  exact c1
/-- .. and out of the caller -/
theorem qs_callU (IH : qs_S D cA rc ra ro n) (X : qs_cx p R s m args meth c D cA rc ra ro y) (hfl : l.flags = flags0) (htab : c.exceptionTable.toList = tableOf (qt_hraw y)) (hraw : qt_hraw y = []) (lk : qs_lk p l e R s m args below meth c H locs kc.1 kc.2 z (F0 m pc ls (st.map (tv ad))) (rest.map (tv ad)) (as.map (tv ad))) {ig : Instr} (hdg : decode (qt_bytes y) pc = .ok (ig, 3)) (hz : z < 169)
    (hd : d + 1 ≤ R.frames) (hlo : 35 * (d + 1) ≤ R.locals) {h' : qm_H} {c' : qm_C} (hrun : qm_run ro n d z (0, qm_ent z as, [], hp, (0, 0)) = some (.inr k, h', c')) (hce : kc.1 + c'.1 ≤ R.cells) (hsl : kc.2 + c'.2 ≤ R.slots)
    (hI : qs_I D cA rc ra y h0 ad0 s lv st hp H locs ls ad) (has : ∀ w ∈ as, qs_wf hp w) (hac : ∀ w ∈ as, qm_cat w = 1) (hal : as.length = qt_na z) (hsum : (rest.map qm_cat).sum ≤ 8) (hpz : qt_pure y = true → qt_pure z = true) :
    W p l e R s m args below meth c H locs kc.1 kc.2 (qs_E D cA rc below args s y h0 ad0 (.inr k, h', (kc.1 + c'.1, kc.2 + c'.2))) (F0 m pc ls (st.map (tv ad))) := by
  have hlk := X.2.2.2.2.2.2.2.1
  refine qs_callT IH X hfl lk hdg hz hd hlo hrun hce hsl hI has hac hal hsum ?_
  intro T' L x ad' st0 t X2 h00 hth htv hB hL k1 k2 k3 k4 k5
  obtain ⟨s1, s2, s3, s4, s5⟩ := X2.leaveThrown x (g := F0 m pc ls (rest.map (tv ad))) rfl rfl rfl (by rw [htab, hraw]; intro z hz; cases hz) hlk
  have hB2 : qs_B D cA rc h0 ad0 h' ad' s (T'.setFrames (.throwing x :: below)) := by
    obtain ⟨c1, c2, c3, c4, c5⟩ := hI.B2 h00 hB
    have e : (T'.setFrames (.throwing x :: below)).heap = t.heap := hth.symm
    exact ⟨c1, by rw [e]; exact c2, ⟨by rw [e]; exact c3.1, fun q h1 h2 => by rw [e]; exact c3.2 q h1 h2⟩, c4, c5⟩
  refine ⟨_, s1, x, s2, s3, ⟨ad', hB2, k1, k2, k3, k4, ?_⟩, s4, locs ++ L, s5, fun q hq => ?_⟩
  · obtain ⟨cell, d1, d2, d3⟩ := k5
    exact ⟨cell, by show T'.heap[x]? = some cell; rw [← hth]; exact d1, d2, by show T'.vm.findClass _ = _; rw [← htv]; exact d3⟩
  · rcases List.mem_append.mp hq with hq | hq
    · exact hI.wr q hq
    · have h1 := hL q hq
      refine ⟨hI.sub h1.1, ?_⟩
      cases hp2 : qt_pure y with
      | false => rfl
      | true => have := h1.2; rw [hpz hp2] at this; cases this
/-- .. or caught in the caller -/
theorem qs_callC (IH : qs_S D cA rc ra ro n) (X : qs_cx p R s m args meth c D cA rc ra ro y) (hfl : l.flags = flags0) (htab : c.exceptionTable.toList = tableOf (qt_hraw y)) (hpu : qt_pure y = false) (hrel : qs_rel (qt_cn (qt_own y)) (fun w => w ∈ qw) (qt_hraw y) (qt_hnd y)) {t0 : Nat} (hh : qm_hnd k pc (qt_hnd y) = some t0) (lk : qs_lk p l e R s m args below meth c H locs kc.1 kc.2 z (F0 m pc ls (st.map (tv ad))) (rest.map (tv ad)) (as.map (tv ad))) {ig : Instr} (hdg : decode (qt_bytes y) pc = .ok (ig, 3)) (hz : z < 169)
    (hd : d + 1 ≤ R.frames) (hlo : 35 * (d + 1) ≤ R.locals) {h' : qm_H} {c' : qm_C} (hrun : qm_run ro n d z (0, qm_ent z as, [], hp, (0, 0)) = some (.inr k, h', c')) (hce : kc.1 + c'.1 ≤ R.cells) (hsl : kc.2 + c'.2 ≤ R.slots)
    (hI : qs_I D cA rc ra y h0 ad0 s lv st hp H locs ls ad) (has : ∀ w ∈ as, qs_wf hp w) (hac : ∀ w ∈ as, qm_cat w = 1) (hal : as.length = qt_na z) (hsum : (rest.map qm_cat).sum ≤ 8)
    (kk : ∀ (H1 : Heap) (locs1 : List Loc) (ls1 : Array Slot) (ad1 : Nat → Nat → Nat), qs_I D cA rc ra y h0 ad0 s lv [vR k (h'.1 k - 1)] h' H1 locs1 ls1 ad1 → W p l e R s m args below meth c H1 locs1 (kc.1 + c'.1) (kc.2 + c'.2) Q (F0 m t0 ls1 ([vR k (h'.1 k - 1)].map (tv ad1)))) :
    W p l e R s m args below meth c H locs kc.1 kc.2 Q (F0 m pc ls (st.map (tv ad))) := by
  have X0 := X
  obtain ⟨hx, hb, hml, hown, hts, hkt, hret, hlkk, hnm⟩ := X
  refine qs_callT IH X0 hfl lk hdg hz hd hlo hrun hce hsl hI has hac hal hsum ?_
  intro T' L x ad' st0 t X2 h00 hth htv hB hL k1 k2 k3 k4 k5
  obtain ⟨cell, d1, d2, d3⟩ := k5
  have hW := X2.warmed
  have hcls : s.vm.findClass (qx_exn k) = some cell.cls := by rw [← d3, htv, hW.alike.findClass]
  have hpl : e.platform.magicAccessors = ({} : Platform).magicAccessors := by rw [X2.admits.platform]
  have hrel2 : qs_rel (qt_cn (qt_own y)) (fun w => w.before args s = true) (qt_hraw y) (qt_hnd y) := by
    have gen : ∀ (rs ks : List (Nat × Nat × Nat × Nat)), qs_rel (qt_cn (qt_own y)) (fun w => w ∈ qw) rs ks → qs_rel (qt_cn (qt_own y)) (fun w => w.before args s = true) rs ks := by
      intro rs
      induction rs with
      | nil => intro ks h; cases ks with
        | nil => trivial
        | cons q r => cases h
      | cons q rs ih => intro ks h; cases ks with
        | nil => cases h
        | cons q' r =>
          obtain ⟨a, b, tt, ct⟩ := q
          obtain ⟨a', b', t', j⟩ := q'
          obtain ⟨c1, c2, c3, c4, c5, c6, c7, c8⟩ := h
          exact ⟨c1, c2, c3, c4, c5, c6, hts _ c7, ih r c8⟩
    exact gen _ _ hrel
  obtain ⟨vm', hW2, hfind⟩ := qs_search (f := F0 m pc ls (rest.map (tv ad))) hpl hown rfl (x := x) d2 k1 k2 hcls hkt.2.2.2.2.2.2 _ _ hrel2 hh ((T'.setTop (F0 m pc ls (rest.map (tv ad)))).pushFrame (.throwing x)) (by rw [qs_vm_thr]; exact hW) (by rw [qs_heap_thr, ← hth]; exact d1)
  have hFC : qs_FC e ((T'.setTop (F0 m pc ls (rest.map (tv ad)))).pushFrame (.throwing x)) (F0 m pc ls (rest.map (tv ad))) x t0 vm' := by
    intro Q E d acts
    rw [W.findHandler_eq (meth := meth) (code := c) (by rw [qs_vm_thr]; exact X2.method') X2.code, htab]
    exact hfind Q E d acts
  have hJ := hI.call (v := [vR k (h'.1 k - 1)]) (rest := []) (L := L) (fun w hw => by cases hw) h00 hB (fun q hq => (hL q hq).1) (fun w hw => by
    rw [List.mem_singleton.mp hw]
    cases k with
    | zero => omega
    | succ k => show h'.1 (k + 1) - 1 < h'.1 (k + 1); omega) (fun hq => by rw [hpu] at hq; cases hq)
  rw [hth] at hJ
  obtain ⟨t2, c1, c2⟩ := kk T'.heap (locs ++ L) ls ad' hJ (T'.setVm vm') rfl (X2.noted hW2)
  refine ⟨t2, qs_caught (g := F0 m pc ls (rest.map (tv ad))) (c := c) X2.here hFC ?_, c2⟩
  have e9 : tv ad' (vR k (h'.1 k - 1)) = .ref x := by
    cases k with
    | zero => omega
    | succ k => exact congrArg Value.ref k4

  rw [List.map_cons, e9] at c1
  exact c1
end Q11
