/-! behind a call -/
theorem qs_wf_mono {h h' : qm_H} (hk : ∀ k, h.1 k ≤ h'.1 k) {v : qm_V} (hv : qs_wf h v) : qs_wf h' v := by
  obtain x | ⟨a, b⟩ | x := v
  · trivial
  · cases a with
    | zero => trivial
    | succ a => exact Nat.lt_of_lt_of_le (show b < h.1 (a + 1) from hv) (hk (a + 1))
  · trivial
theorem qs_I.sub {D : va_G} {cA : Nat → ClassId} {rc : Nat → Cell} {ra : Nat → Nat} {y : Nat} {h0 : qm_H} {ad0 : Nat → Nat → Nat} {s : State} {lv : qm_L} {st : List qm_V} {h : qm_H} {H : Heap} {locs : List Loc} {ls : Array Slot} {ad : Nat → Nat → Nat} (hI : qs_I D cA rc ra y h0 ad0 s lv st h H locs ls ad) {q : Nat} (hq : qs_A h ad H.size q) : qs_A h0 ad0 s.heap.size q := by
  rcases hq with ⟨k, i, hi, h4, rfl⟩ | hq
  · exact hI.free hi h4
  · exact Or.inr (Nat.le_trans hI.2.2.2.2.1.1 hq)
theorem qs_heap_top (T : State) (g : JFrame) : (T.setTop g).heap = T.heap := by simp [State.setTop, State.modifyTopJava]
theorem qs_vm_top (T : State) (g : JFrame) : (T.setTop g).vm = T.vm := by simp [State.setTop, State.modifyTopJava]
theorem qs_I.call {D : va_G} {cA : Nat → ClassId} {rc : Nat → Cell} {ra : Nat → Nat} {y : Nat} {h0 : qm_H} {ad0 : Nat → Nat → Nat} {s st0 t : State} {lv : qm_L} {st rest v : List qm_V} {h h' : qm_H} {H : Heap} {locs L : List Loc} {ls : Array Slot} {ad ad' : Nat → Nat → Nat} (hI : qs_I D cA rc ra y h0 ad0 s lv st h H locs ls ad) (hrest : ∀ w ∈ rest, qs_wf h w) (h00 : st0.heap = H) (hB : qs_B D cA rc h ad h' ad' st0 t) (hL : ∀ q ∈ L, qs_A h ad H.size q.base) (hv : ∀ w ∈ v, qs_wf h' w)
    (hpu : qt_pure y = true → t.heap = st0.heap ∧ h' = h ∧ ad' = ad ∧ L = []) : qs_I D cA rc ra y h0 ad0 s lv (v ++ rest) h' t.heap (locs ++ L) ls ad' := by
  have hsub := fun (q : Nat) (hq : qs_A h ad H.size q) => hI.sub hq
  obtain ⟨a1, a2, a3, a4, a5, a6, a7, a8, a9⟩ := hI
  obtain ⟨b1, b2, b3, b4, b5⟩ := hB
  rw [h00] at b3 b5
  refine ⟨⟨a1.1, a1.2.1, a1.2.2.1, fun i w hw => ?_⟩, ⟨fun w hw => ?_, fun w hw => qs_wf_mono b4 (a2.2 w hw)⟩, b2, fun k i hi => ?_, ⟨?_, fun q h1 h2 => ?_, fun q hq => ?_⟩, fun k => Nat.le_trans (a6 k) (b4 k), fun k i h1 h2 h3 => ?_, a8, fun hp => ?_⟩
  · rw [qs_tv_wf b1 (a2.2 w (List.mem_of_getElem? hw))]
    exact a1.2.2.2 i w hw
  · rcases List.mem_append.mp hw with hw | hw
    · exact hv w hw
    · exact qs_wf_mono b4 (hrest w hw)
  · rw [b1 k i (Nat.lt_of_lt_of_le hi (a6 k))]
    exact a4 k i hi
  · have h1 := b3.1
    rw [h00] at h1
    exact Nat.le_trans a5.1 h1
  · have h3 := b3.2 q (by rw [h00]; exact Nat.lt_of_lt_of_le h1 a5.1) (fun z => h2 (hsub q z))
    rw [h3, h00]
    exact a5.2.1 q h1 h2
  · rcases List.mem_append.mp hq with hq | hq
    · exact a5.2.2 q hq
    · exact hsub _ (hL q hq)
  · rcases Nat.lt_or_ge i (h.1 k) with h9 | h9
    · rw [b1 k i h9]
      exact a7 k i h1 h9 h3
    · exact Nat.le_trans a5.1 (b5 k i h9 h2 h3)
  · obtain ⟨e1, e2, e3, e4⟩ := a9 hp
    obtain ⟨f1, f2, f3, f4⟩ := hpu hp
    exact ⟨by rw [f1, h00, e1], by rw [e2, f4]; rfl, f2.trans e3, f3.trans e4⟩
/-- how a call comes to its callee -/
def qs_lk (p : Program) (l : Launch) (e : Env) (R : Room) (s : State) (m : MethodId) (args : Array Value) (below : List Frame) (meth : Method) (c : Code) (H : Heap) (locs : List Loc) (cells slots : Nat) (y : Nat) (g : JFrame) (rest : List Value) (as : List Value) : Prop :=
  ∀ T : State, T.heap = H → Stand p l e R s m args below meth c T locs cells slots → ∃ vm₁ mk, Stand p l e R s m args below meth c (T.setVm vm₁) locs cells slots ∧ s.methodNamed? (qt_y y) = some mk ∧
    ∀ target, (∀ acts, Steps p.tables e below (doInvoke e ((T.setVm vm₁).setTop { g with stack := rest }) acts mk as.toArray).1 target) → Steps p.tables e below (T.setTop g) target
section Q7
variable {p : Program} {l : Launch} {e : Env} {R : Room} {s : State} {m : MethodId} {args : Array Value} {below : List Frame} {meth : Method} {c : Code} {H : Heap} {locs : List Loc} {Q : State → Prop}
variable {pc : Nat} {ls : Array Slot} {D : va_G} {cA : Nat → ClassId} {rc : Nat → Cell} {ra : Nat → Nat} {h0 : qm_H} {ad0 ad : Nat → Nat → Nat} {ro : Nat → Nat × (Nat → Int32)} {y z n d : Nat} {lv : qm_L} {st rest as : List qm_V} {hp : qm_H} {kc : qm_C}
/-- a call whose callee returns -/
theorem qs_callR (IH : qs_S D cA rc ra ro n) (X : qs_cx p R s m args meth c D cA rc ra ro y) (hfl : l.flags = flags0) (lk : qs_lk p l e R s m args below meth c H locs kc.1 kc.2 z (F0 m pc ls (st.map (tv ad))) (rest.map (tv ad)) (as.map (tv ad))) {ig : Instr} (hdg : decode (qt_bytes y) pc = .ok (ig, 3)) (hz : z < 169)
    (hd : d + 1 ≤ R.frames) (hlo : 35 * (d + 1) ≤ R.locals) {v : Option qm_V} {h' : qm_H} {c' : qm_C} (hrun : qm_run ro n d z (0, qm_ent z as, [], hp, (0, 0)) = some (.inl v, h', c')) (hce : kc.1 + c'.1 ≤ R.cells) (hsl : kc.2 + c'.2 ≤ R.slots)
    (hI : qs_I D cA rc ra y h0 ad0 s lv st hp H locs ls ad) (has : ∀ w ∈ as, qs_wf hp w) (hrest : ∀ w ∈ rest, qs_wf hp w) (hac : ∀ w ∈ as, qm_cat w = 1) (hal : as.length = qt_na z) (hsum : (rest.map qm_cat).sum ≤ 8) (hpz : qt_pure y = true → qt_pure z = true)
    (kk : ∀ (H1 : Heap) (locs1 : List Loc) (ls1 : Array Slot) (ad1 : Nat → Nat → Nat), qs_I D cA rc ra y h0 ad0 s lv (v.toList ++ rest) h' H1 locs1 ls1 ad1 → W p l e R s m args below meth c H1 locs1 (kc.1 + c'.1) (kc.2 + c'.2) Q (F0 m (pc + 3) ls1 ((v.toList ++ rest).map (tv ad1)))) :
    W p l e R s m args below meth c H locs kc.1 kc.2 Q (F0 m pc ls (st.map (tv ad))) := by
  obtain ⟨hx, hb, hml, hown, hts, hkt, hret, hlkk, hnm⟩ := X
  intro T hT XT
  obtain ⟨vm₁, mk, X1, hmk, hst1⟩ := lk T hT XT
  have hsz : ls.size = c.maxLocals := by rw [hml]; exact hI.1.2.2.1.1
  have hcat : (List.map (fun w : Value => w.category) (rest.map (tv ad))).sum ≤ 8 := by
    rw [List.map_map, show ((fun w : Value => w.category) ∘ tv ad) = qm_cat from funext fun w => qs_tv_cat ad w]
    exact hsum
  have hro : ∀ k, qk_tag k = 5 ∨ qk_tag k = 7 → 0 < hp.1 k ∧ ad k 0 = ra k := by
    intro k hk
    obtain ⟨-, -, -, a4, -, a6, -, a8, -⟩ := hI
    obtain ⟨g1, g2⟩ := a8 k hk
    exact ⟨Nat.lt_of_lt_of_le g1 (a6 k), (a4 k 0 g1).trans g2⟩
  obtain ⟨t, a1, a2⟩ := qs_callee IH X1 hx hfl (g := F0 m pc ls (rest.map (tv ad))) rfl hsz (by rw [hb]; exact hdg) (by show 2 * 0 + (List.map (fun w : Value => w.category) (rest.map (tv ad))).sum ≤ 8; omega) hts hkt hz hmk hd hlo hrun hce hsl (by show qs_rep D cA rc ad hp T.heap; rw [hT]; exact hI.2.2.1) hro has hac hal []
  obtain ⟨o, b1, b2, ⟨ad', rfl, hB, hvw, hpu⟩, L, ⟨-, hW2, hsame⟩, hfree⟩ := a2
  obtain ⟨T', X2, hW3, -, ht⟩ := X1.outOf rfl (by rw [hb]; exact hdg) b2 hW2 hsame
  have hth : t.heap = T'.heap := by rw [ht]; exact qs_heap_top _ _
  have hJ := hI.call (v := v.toList) (L := L) (st0 := (T.setVm vm₁).calling (F0 m pc ls (rest.map (tv ad))) mk (as.map (tv ad)).toArray) hrest hT hB (fun q hq => by have := (hfree q hq).1; rw [show ((T.setVm vm₁).calling (F0 m pc ls (rest.map (tv ad))) mk (as.map (tv ad)).toArray).heap.size = H.size from by rw [← hT]; rfl] at this; exact this) (fun w hw => hvw w (by cases v with | none => cases hw | some u => rw [List.mem_singleton.mp hw])) (fun hpy => by
    obtain ⟨e1, e2, e3⟩ := hpu (hpz hpy)
    refine ⟨e1, e2, e3, ?_⟩
    cases L with
    | nil => rfl
    | cons q L => have := (hfree q List.mem_cons_self).2; rw [hpz hpy] at this; cases this)
  rw [hth] at hJ
  obtain ⟨t2, c1, c2⟩ := kk T'.heap (locs ++ L) ls ad' hJ T' rfl X2
  refine ⟨t2, hst1 t2 fun acts => ?_, c2⟩
  rw [doInvoke_state]
  refine a1.trans ?_
  rw [ht]
  have e9 : (rest.map (tv ad)) = rest.map (tv ad') := (qs_map_ext hB.1 hrest).symm
  rw [e9]
  have e8 : ((v.map (tv ad')).toList ++ rest.map (tv ad')) = (v.toList ++ rest).map (tv ad') := by cases v <;> simp
  show Steps p.tables e below (T'.setTop (F0 m (pc + 3) ls ((v.map (tv ad')).toList ++ rest.map (tv ad')))) t2
  rw [e8]
  exact c1
end Q7
