/-! instructions that read and write the heap -/
/-- a static field, and what it holds -/
def qn_z1 (C n d : String) (v : Value) (rc : Cell) (ra : Nat) (U : State) : Prop := ∃ (cf : ClassId) (kf : Class) (fi : Nat) (f : Field), U.fieldFound? C n d = some (cf, kf, fi, f) ∧ f.isStatic = true ∧ kf.init = .initialized ∧ kf.statics = some ra ∧ rc.vm.isStatics = true ∧ rc.slots[f.slot]? = some v ∧ U.vm.findClass C = some cf ∧ rc.cls = cf ∧ kf.staticTypes[f.slot]? = some f.type
theorem qn_z1.moved {C n d : String} {v : Value} {rc : Cell} {ra : Nat} {u U : State} (hvm : u.vm.Alike U.vm) (h : qn_z1 C n d v rc ra u) : qn_z1 C n d v rc ra U := by
  obtain ⟨cf, kf, fi, f, h1, h2, h3, h4, h5, h6, h7, h8, h9⟩ := h
  obtain ⟨k', hi', he⟩ := State.fieldFound?_setVm hvm h1
  exact ⟨cf, k', fi, f, hi', h2, by rw [he]; exact h3, by rw [he]; exact h4, h5, h6, by rw [hvm.findClass]; exact h7, h8, by rw [he]; exact h9⟩
def qn_zt (rc : Nat → Cell) (ra : Nat → Nat) (U : State) : Prop :=
  qn_z1 "PeriodKernel$Word" "TAKES" "[I" (.ref (ra 63)) (rc 65) (ra 65) U ∧ qn_z1 "PeriodKernel$Word" "LEAVES" "[I" (.ref (ra 64)) (rc 65) (ra 65) U ∧
  (∃ v, v.isRef = true ∧ qn_z1 "java/lang/Throwable" "UNASSIGNED_STACK" "[Ljava/lang/StackTraceElement;" v (rc 66) (ra 66) U) ∧ (∃ v, v.isRef = true ∧ qn_z1 "java/lang/Throwable" "SUPPRESSED_SENTINEL" "Ljava/util/List;" v (rc 66) (ra 66) U)
theorem qn_zt.moved {rc : Nat → Cell} {ra : Nat → Nat} {u U : State} (hvm : u.vm.Alike U.vm) (h : qn_zt rc ra u) : qn_zt rc ra U := by
  obtain ⟨h1, h2, ⟨v, h3, h4⟩, ⟨w, h5, h6⟩⟩ := h
  exact ⟨h1.moved hvm, h2.moved hvm, ⟨v, h3, h4.moved hvm⟩, ⟨w, h5, h6.moved hvm⟩⟩
/-- the texts, and the kinds that are no kinds of others -/
def qn_ex (U : State) : Prop := (∀ q ∈ qn_str, ∃ a, vk_R "PeriodKernel" q.1 q.2 a U) ∧ (∀ i j, i < 3 → j < 3 → i ≠ j → va_Nc (qx_exn (70 + i)) (qx_exn (70 + j)) U) ∧ ∀ w ∈ qn_nw, va_Nw w U
theorem qn_ex.warm {u U : State} (hW : u.WarmedH U.vm) (h : qn_ex u) : qn_ex U := ⟨fun q hq => by
  obtain ⟨a, ha⟩ := h.1 q hq
  exact ⟨a, ha.warm hW⟩, fun i j hi hj hn => (h.2.1 i j hi hj hn).moved hW.alike, fun w hw => by
  have h3 := h.2.2 w hw
  simp only [qn_nw, List.mem_cons, List.not_mem_nil, or_false] at hw
  rcases hw with rfl | rfl | rfl | rfl | rfl | rfl
  · exact va_Nw.warmC hW h3
  · exact va_Nw.warmC hW h3
  · exact va_Nw.warmC hW h3
  · exact va_Nw.warmD hW h3
  · exact va_Nw.warmD hW h3
  · exact va_Nw.warmD hW h3⟩
/-- what the tables say, at a state -/
def qs_kt (D : va_G) (cA : Nat → ClassId) (rc : Nat → Cell) (ra : Nat → Nat) (ro : Nat → Nat × (Nat → Int32)) (U : State) : Prop :=
  va_K D qn_cls [] U ∧ (∀ k, 1 ≤ qk_tag k → qk_tag k ≤ 4 → ArrOfT U (cA k) (qk_ty k) ∧ va_RA U (cA k) (qk_ty k)) ∧
  (∀ k, qk_tag k = 5 → U.isArrayOf (rc k) .int ∧ (rc k).vm ≠ .unknown ∧ (rc k).slots.size = (ro k).1 ∧ ∀ j, j < (ro k).1 → (rc k).slots[j]? = some (.int ((ro k).2 j))) ∧
  (∀ w ∈ qn_nest, va_Nw w U) ∧ qn_zt rc ra U ∧ (∀ k, qk_tag k = 4 → va_AO (qt_cn (qk_cls k)) U) ∧ qn_ex U
/-- the state of a walk -/
def qs_I (D : va_G) (cA : Nat → ClassId) (rc : Nat → Cell) (ra : Nat → Nat) (y : Nat) (h0 : qm_H) (ad0 : Nat → Nat → Nat) (s : State) (lv : qm_L) (st : List qm_V) (h : qm_H) (H : Heap) (locs : List Loc) (ls : Array Slot) (ad : Nat → Nat → Nat) : Prop :=
  qs_lv ad (qt_maxL y) ls lv ∧ qs_ok h lv st ∧ qs_rep D cA rc ad h H ∧ qs_ext h0 ad0 ad ∧ va_S (qs_A h0 ad0 s.heap.size) s.heap H locs ∧ (∀ k, h0.1 k ≤ h.1 k) ∧ (∀ k i, h0.1 k ≤ i → i < h.1 k → qk_tag k ≤ 4 → s.heap.size ≤ ad k i) ∧
  (∀ k, qk_tag k = 5 ∨ qk_tag k = 7 → 0 < h0.1 k ∧ ad0 k 0 = ra k) ∧ (qt_pure y = true → H = s.heap ∧ locs = [] ∧ h = h0 ∧ ad = ad0)
theorem qs_cel0 {D : va_G} {cA : Nat → ClassId} {rc : Nat → Cell} {ad : Nat → Nat → Nat} {k i : Nat} {f : Nat → qm_V} {H : Heap} (h : qs_cel D cA rc ad k i f H) (h0 : qk_tag k = 0) : t_OB (ad k i) (D.1 (qk_cls k)) (qk_len k) (D.2 (qk_cls k)) H (fun j => tv ad (f j)) := by
  unfold qs_cel at h
  rw [h0] at h
  exact h
theorem qs_cel5 {D : va_G} {cA : Nat → ClassId} {rc : Nat → Cell} {ad : Nat → Nat → Nat} {k i : Nat} {f : Nat → qm_V} {H : Heap} (h : qs_cel D cA rc ad k i f H) (h0 : qk_tag k = 5) : H[ad k i]? = some (rc k) := by
  unfold qs_cel at h
  rw [h0] at h
  exact h
theorem qs_celA {D : va_G} {cA : Nat → ClassId} {rc : Nat → Cell} {ad : Nat → Nat → Nat} {k i : Nat} {f : Nat → qm_V} {H : Heap} (h1 : 1 ≤ qk_tag k) (h4 : qk_tag k ≤ 4) : qs_cel D cA rc ad k i f H ↔ H[ad k i]? = some (arrV (cA k) (qk_len k) (fun j => tv ad (f j))) := by
  unfold qs_cel
  split
  · omega
  · omega
  · omega
  · omega
  · rfl
theorem qs_celO {D : va_G} {cA : Nat → ClassId} {rc : Nat → Cell} {ad : Nat → Nat → Nat} {k i : Nat} {f : Nat → qm_V} {H : Heap} (h0 : qk_tag k = 0) (h : t_OB (ad k i) (D.1 (qk_cls k)) (qk_len k) (D.2 (qk_cls k)) H (fun j => tv ad (f j))) : qs_cel D cA rc ad k i f H := by
  unfold qs_cel
  rw [h0]
  exact h
theorem qs_tv_sh (ad : Nat → Nat → Nat) (v : qm_V) : qo_shape v (tv ad v) := by
  obtain x | ⟨k, i⟩ | x := v
  · rfl
  · cases k with
    | zero => trivial
    | succ k => exact ⟨_, rfl⟩
  · trivial
theorem qs_inb {x : Int32} {n : Nat} (h : qm_inb x n = true) : vp_in x n := by
  unfold qm_inb at h
  rw [Bool.and_eq_true, decide_eq_true_eq, decide_eq_true_eq] at h
  exact vp_in_iff.mpr h
theorem qs_in_lt {x : Int32} {n : Nat} (h : vp_in x n) : x.toNatClampNeg < n := Nat.not_le.mp fun q => h (Or.inr q)
/-- a cell that may be written lies where writing is free -/
theorem qs_I.free {D : va_G} {cA : Nat → ClassId} {rc : Nat → Cell} {ra : Nat → Nat} {y : Nat} {h0 : qm_H} {ad0 : Nat → Nat → Nat} {s : State} {lv : qm_L} {st : List qm_V} {h : qm_H} {H : Heap} {locs : List Loc} {ls : Array Slot} {ad : Nat → Nat → Nat} (hI : qs_I D cA rc ra y h0 ad0 s lv st h H locs ls ad) {k i : Nat} (hi : i < h.1 k) (h4 : qk_tag k ≤ 4) : qs_A h0 ad0 s.heap.size (ad k i) := by
  obtain ⟨-, -, -, hx, -, -, hn, -, -⟩ := hI
  by_cases hi0 : i < h0.1 k
  · exact Or.inl ⟨k, i, hi0, h4, hx k i hi0⟩
  · exact Or.inr (hn k i (Nat.not_lt.mp hi0) hi h4)
/-- behind a write -/
theorem qs_I.put {D : va_G} {cA : Nat → ClassId} {rc : Nat → Cell} {ra : Nat → Nat} {y : Nat} {h0 : qm_H} {ad0 : Nat → Nat → Nat} {s : State} {lv : qm_L} {st r : List qm_V} {h : qm_H} {H H1 : Heap} {locs : List Loc} {ls : Array Slot} {ad : Nat → Nat → Nat} (hI : qs_I D cA rc ra y h0 ad0 s lv st h H locs ls ad) {k i j sl : Nat} {v : qm_V} (hi : i < h.1 k) (h4 : qk_tag k ≤ 4) (hv : qs_wf h v) (hr : ∀ w ∈ r, qs_wf h w) (hp : qt_pure y = false)
    (hc : qs_cel D cA rc ad k i (fun c => if c = j then v else h.2 k i c) H1) (hz : H1.size = H.size) (ho : ∀ q, q ≠ ad k i → H1[q]? = H[q]?) : qs_I D cA rc ra y h0 ad0 s lv r (qm_put h k i j v) H1 (locs ++ [⟨ad k i, sl⟩]) ls ad := by
  have hA := hI.free hi h4
  obtain ⟨a1, a2, a3, a4, a5, a6, a7, a8, a9⟩ := hI
  exact ⟨a1, ⟨hr, a2.2⟩, a3.put hi (by omega) hv hc ho, a4, a5.put hz ho hA, a6, a7, a8, fun q => by rw [hp] at q; cases q⟩
/-- behind a making -/
theorem qs_I.new {D : va_G} {cA : Nat → ClassId} {rc : Nat → Cell} {ra : Nat → Nat} {y : Nat} {h0 : qm_H} {ad0 : Nat → Nat → Nat} {s : State} {lv : qm_L} {st r : List qm_V} {h : qm_H} {H H1 : Heap} {locs : List Loc} {ls : Array Slot} {ad : Nat → Nat → Nat} (hI : qs_I D cA rc ra y h0 ad0 s lv st h H locs ls ad) {k : Nat} {f : Nat → qm_V} (hf : ∀ j, qs_wf h (f j)) (hr : ∀ w ∈ r, qs_wf h w) (hp : qt_pure y = false) (hk : 0 < k) (h5 : qk_tag k ≤ 4)
    (hc : qs_cel D cA rc (qs_nad h ad k H.size) k (h.1 k) f H1) (hz : H1.size = H.size + 1) (ho : ∀ q, q < H.size → H1[q]? = H[q]?) : qs_I D cA rc ra y h0 ad0 s lv (vR k (h.1 k) :: r) (qm_new h k f) H1 locs ls (qs_nad h ad k H.size) := by
  obtain ⟨a1, a2, a3, a4, a5, a6, a7, a8, a9⟩ := hI
  have hx := qs_nad_ext h ad k H.size
  refine ⟨⟨a1.1, a1.2.1, a1.2.2.1, fun i v hv => ?_⟩, ⟨List.forall_mem_cons.mpr ⟨?_, fun w hw => qs_wf_new (hr w hw)⟩, fun v hv => qs_wf_new (a2.2 v hv)⟩, a3.new hf (fun _ => hc) ho, fun a b hb => ?_, ⟨by have := a5.1; omega, fun q h1 h2 => (ho q (Nat.lt_of_lt_of_le h1 a5.1)).trans (a5.2.1 q h1 h2), a5.2.2⟩, fun a => Nat.le_trans (a6 a) (qs_new_cnt h k f a), fun a b h1 h2 h3 => ?_, a8, fun q => by rw [hp] at q; cases q⟩
  · rw [qs_tv_wf hx (a2.2 v (List.mem_of_getElem? hv))]
    exact a1.2.2.2 i v hv
  · cases k with
    | zero => exact absurd hk (Nat.lt_irrefl 0)
    | succ k =>
      show h.1 (k + 1) < (qm_new h (k + 1) f).1 (k + 1)
      simp [qm_new]
  · rw [hx a b (Nat.lt_of_lt_of_le hb (a6 a))]
    exact a4 a b hb
  · rcases qs_new_lt h2 with h2 | ⟨rfl, rfl⟩
    · rw [hx a b h2]
      exact a7 a b h1 h2 h3
    · rw [qs_nad_self]
      exact a5.1
section Q2
variable {p : Program} {l : Launch} {e : Env} {R : Room} {s : State} {m : MethodId} {args : Array Value} {below : List Frame} {meth : Method} {c : Code} {H : Heap} {locs : List Loc} {cells slots : Nat} {Q : State → Prop}
variable {pc : Nat} {ls : Array Slot} {D : va_G} {cA : Nat → ClassId} {rc : Nat → Cell} {ra : Nat → Nat} {h0 : qm_H} {ad0 ad : Nat → Nat → Nat} {ro : Nat → Nat × (Nat → Int32)} {y len pc' : Nat} {lv lv' : qm_L} {st st' : List qm_V} {hp hp' : qm_H} {kc kc' : qm_C}
/-- what stays fixed in a walk of method y -/
def qs_cx (p : Program) (R : Room) (s : State) (m : MethodId) (args : Array Value) (meth : Method) (c : Code) (D : va_G) (cA : Nat → ClassId) (rc : Nat → Cell) (ra : Nat → Nat) (ro : Nat → Nat × (Nat → Int32)) (y : Nat) : Prop :=
  p.tables.exec = Jvm.exec ∧ c.code = qt_bytes y ∧ c.maxLocals = qt_maxL y ∧ s.vm.findClass (qt_cn (qt_own y)) = some m.cls ∧ (∀ w ∈ qw, w.before args s = true) ∧ qs_kt D cA rc ra ro s ∧ meth.sig.returnType = qt_rty y ∧ meth.locks = false ∧ (qt_ctor y = true → meth.name = "<init>")
theorem qs_getfield (X : qs_cx p R s m args meth c D cA rc ra ro y) {ix : Nat} (hdg : decode (qt_bytes y) pc = .ok (.getfield ix, len)) (h : qm_1 ro y (.getfield ix) len pc lv st hp kc = some (pc', lv', st', hp', kc')) (hI : qs_I D cA rc ra y h0 ad0 s lv st hp H locs ls ad)
    (kk : ∀ (H1 : Heap) (locs1 : List Loc) (ls1 : Array Slot) (ad1 : Nat → Nat → Nat), qs_I D cA rc ra y h0 ad0 s lv' st' hp' H1 locs1 ls1 ad1 → W p l e R s m args below meth c H1 locs1 kc'.1 kc'.2 Q (F0 m pc' ls1 (st'.map (tv ad1)))) : W p l e R s m args below meth c H locs kc.1 kc.2 Q (F0 m pc ls (st.map (tv ad))) := by
  obtain ⟨hx, hb, hml, hown, hts, hkt, -, -, hnm⟩ := X
  replace h : (qm_ln len 3 ((qm_pr st).bind fun q => (qt_fld (qt_own y) ix).bind fun f => if qk_tag q.1 = 0 ∧ qk_cls q.1 = f.1 then qm_go (pc + 3) lv (hp.2 q.1 q.2.1 f.2 :: q.2.2) hp kc else none)) = some (pc', lv', st', hp', kc') := h
  obtain ⟨rfl, h1z⟩ := qs_ln h
  obtain ⟨⟨a, b, r⟩, hq, h2z⟩ := qs_bd h1z
  obtain ⟨a, rfl, rfl⟩ := qs_pr hq
  obtain ⟨⟨ci, j⟩, hf, h3z⟩ := qs_bd h2z
  obtain ⟨hk, h4z⟩ := qs_if h3z
  obtain ⟨rfl, rfl, rfl, rfl, rfl⟩ := qs_go h4z
  have hI0 := hI
  obtain ⟨a1, a2, a3, a4, a5, a6, a7, a8, a9⟩ := hI
  obtain ⟨ht, rfl⟩ : qk_tag (a + 1) = 0 ∧ qk_cls (a + 1) = ci := hk
  obtain ⟨C, T, hc0⟩ := qo_kn ht
  obtain ⟨C', T', N', hc, hj, hd, hlk⟩ := qo_fld hf
  obtain ⟨rfl, rfl, rfl⟩ : C = C' ∧ T = T' ∧ qk_len (a + 1) = N' := by
    have := hc0.symm.trans hc
    simp only [Option.some.injEq, Prod.mk.injEq] at this
    exact this
  have hin := qo_lay hc
  have hab : b < hp.1 (a + 1) := a2.top
  obtain ⟨cell, q1, q2, q3, q4⟩ := qs_cel0 (a3.1 (a + 1) b hab) ht
  obtain ⟨hS, hfc, kC, hkC, hkind⟩ := hkt.1.1 _ _ hc
  obtain ⟨cf, kf, fi, f, hi, hsl⟩ := hS j hj
  have hst := (u_facts hfc hkC (u_lays hts hin hj) hi).1
  have hsame : s.fieldFound? C (T j).2.1 (T j).2.2.1 = some (cf, kf, fi, f) := by rw [← hd]; exact hi
  have hslot : cell.slots[f.slot]? = some (tv ad (hp.2 (a + 1) b j)) := by rw [hsl]; exact q4 j hj
  have hkn : cell.vm ≠ .unknown := by rw [q3]; intro z; cases z
  have k2 := kk H locs ls ad ⟨a1, a2.pop.psh (a3.2.2 _ _ _ hab hj), a3, a4, a5, a6, a7, a8, a9⟩
  exact W.getf hx hb hown (hts _ hlk) hsame hst q1 hkn hslot rfl rfl hdg k2
theorem qs_putfield (X : qs_cx p R s m args meth c D cA rc ra ro y) {ix : Nat} (hdg : decode (qt_bytes y) pc = .ok (.putfield ix, len)) (h : qm_1 ro y (.putfield ix) len pc lv st hp kc = some (pc', lv', st', hp', kc')) (hI : qs_I D cA rc ra y h0 ad0 s lv st hp H locs ls ad)
    (kk : ∀ (H1 : Heap) (locs1 : List Loc) (ls1 : Array Slot) (ad1 : Nat → Nat → Nat), qs_I D cA rc ra y h0 ad0 s lv' st' hp' H1 locs1 ls1 ad1 → W p l e R s m args below meth c H1 locs1 kc'.1 kc'.2 Q (F0 m pc' ls1 (st'.map (tv ad1)))) : W p l e R s m args below meth c H locs kc.1 kc.2 Q (F0 m pc ls (st.map (tv ad))) := by
  obtain ⟨hx, hb, hml, hown, hts, hkt, -, -, hnm⟩ := X
  replace h : (qm_ln len 3 ((qm_pvr st).bind fun q => (qt_fld (qt_own y) ix).bind fun f => if qk_tag q.2.1 = 0 ∧ qk_cls q.2.1 = f.1 ∧ qm_fits y f.1 f.2 q.1 = true ∧ qt_pure y = false then qm_go (pc + 3) lv q.2.2.2 (qm_put hp q.2.1 q.2.2.1 f.2 q.1) kc else none)) = some (pc', lv', st', hp', kc') := h
  obtain ⟨rfl, h1z⟩ := qs_ln h
  obtain ⟨⟨v, a, b, r⟩, hq, h2z⟩ := qs_bd h1z
  obtain ⟨a, rfl, rfl⟩ := qs_pvr hq
  obtain ⟨⟨ci, j⟩, hf, h3z⟩ := qs_bd h2z
  obtain ⟨hk, h4z⟩ := qs_if h3z
  obtain ⟨rfl, rfl, rfl, rfl, rfl⟩ := qs_go h4z
  have hI0 := hI
  obtain ⟨a1, a2, a3, a4, a5, a6, a7, a8, a9⟩ := hI
  obtain ⟨ht, rfl, hfit, hpu⟩ : qk_tag (a + 1) = 0 ∧ qk_cls (a + 1) = ci ∧ qm_fits y ci j v = true ∧ qt_pure y = false := hk
  obtain ⟨C, T, hc0⟩ := qo_kn ht
  obtain ⟨C', T', N', hc, hj, hd, hlk⟩ := qo_fld hf
  obtain ⟨rfl, rfl, rfl⟩ : C = C' ∧ T = T' ∧ qk_len (a + 1) = N' := by
    have := hc0.symm.trans hc
    simp only [Option.some.injEq, Prod.mk.injEq] at this
    exact this
  have hin := qo_lay hc
  have hnames := qo_names hc
  have htys := qo_types hc
  have hab : b < hp.1 (a + 1) := a2.pop.top
  have hvw : qs_wf hp v := a2.top
  obtain ⟨cell, q1, q2, q3, q4⟩ := qs_cel0 (a3.1 (a + 1) b hab) ht
  have hkA := hkt.1.1 _ _ hc
  have hap := va_apart (own := C) hts hin (qk_fty (qk_cls (a + 1))) htys hnames hkt.1 hc
  obtain ⟨hS, hfc, kC, hkC, hkind⟩ := hkA
  obtain ⟨cf, kf, fi, f, hi, hsl⟩ := hS j hj
  have hlay := hts _ (hin _ (u_in_lay hj))
  have hst := (u_facts hfc hkC (u_lays hts hin hj) hi).1
  have hsame : s.fieldFound? C (T j).2.1 (T j).2.2.1 = some (cf, kf, fi, f) := by rw [← hd]; exact hi
  have hlt : f.slot < cell.slots.size := by rw [hsl]; exact k2_hasslot (q4 j hj)
  obtain ⟨hfin, hnar, hfts⟩ := qo_fits (w := tv ad v) hc hj hfit (qs_tv_sh ad v)
  have fin : ∀ H1 : Heap, H1[ad (a + 1) b]? = some (cell.setSlot f.slot (tv ad v)) → H1.size = H.size → (∀ q, q ≠ ad (a + 1) b → H1[q]? = H[q]?) → W p l e R s m args below meth c H1 (locs ++ [⟨ad (a + 1) b, f.slot⟩]) kc.1 kc.2 Q (F0 m (pc + 3) ls (r.map (tv ad))) := by
    intro H1 e1 z1 o1
    refine kk H1 _ ls ad (hI0.put (j := j) hab (show qk_tag (a + 1) ≤ 4 by omega) hvw a2.pop.pop.1 hpu (qs_celO ht ?_) z1 o1)
    rw [hsl] at e1
    refine t_OB.to (V := updV (fun j => tv ad (hp.2 (a + 1) b j)) j (tv ad v)) ⟨_, e1, q2, q3, t_set q4 hap hj (tv ad v)⟩ (fun i _ => ?_)
    unfold updV
    dsimp only
    split <;> rfl
  rcases hfin with hfin | ⟨hfin, hct, how⟩
  · unfold u_lay at hlay
    rw [if_neg (by rw [hfin]; decide)] at hlay
    have h6 := u_store hfc hkC hkind hlay hi (htys j hj) hnar hfts
    exact W.putK hx hb (f := f) ⟨hown, hts _ hlk, ⟨_, _, _, hsame⟩, hst⟩ (by rw [q2]; exact h6) q1 q3 hlt rfl rfl hdg fin
  · unfold u_lay at hlay
    rw [if_pos hfin] at hlay
    have hcn : qt_cn (qt_own y) = C := by rw [how]; exact (qo_cls1 hc).1
    have hcf : m.cls = cf := by
      obtain ⟨_, _, c', _, _, _, -, -, hf', -, -, -, hown2, -⟩ := Cond.laysFinal_spec hlay
      have e1 : c' = cf := by have := hi.symm.trans hf'; simp at this; exact this.1.symm
      rw [hd, ← hcn] at hown2
      rw [← e1]; exact Option.some.inj (hown.symm.trans hown2)
    have h6 := u_fits hfc hkC hkind (Or.inr hlay) hi (htys j hj) hnar hfts
    exact W.putFinK hx hb hown (hts _ hlk) hsame hst hcf (hnm hct) (by rw [q2]; exact h6) q1 q3 hlt rfl rfl hdg fin
theorem qs_getstatic (X : qs_cx p R s m args meth c D cA rc ra ro y) {ix : Nat} (hdg : decode (qt_bytes y) pc = .ok (.getstatic ix, len)) (h : qm_1 ro y (.getstatic ix) len pc lv st hp kc = some (pc', lv', st', hp', kc')) (hI : qs_I D cA rc ra y h0 ad0 s lv st hp H locs ls ad)
    (kk : ∀ (H1 : Heap) (locs1 : List Loc) (ls1 : Array Slot) (ad1 : Nat → Nat → Nat), qs_I D cA rc ra y h0 ad0 s lv' st' hp' H1 locs1 ls1 ad1 → W p l e R s m args below meth c H1 locs1 kc'.1 kc'.2 Q (F0 m pc' ls1 (st'.map (tv ad1)))) : W p l e R s m args below meth c H locs kc.1 kc.2 Q (F0 m pc ls (st.map (tv ad))) := by
  obtain ⟨hx, hb, hml, hown, hts, hkt, -, -, hnm⟩ := X
  replace h : (qm_ln len 3 ((qt_sta (qt_own y) ix).bind fun k => qm_go (pc + 3) lv (vR k 0 :: st) hp kc)) = some (pc', lv', st', hp', kc') := h
  obtain ⟨rfl, h1z⟩ := qs_ln h
  obtain ⟨k, hs, h2z⟩ := qs_bd h1z
  obtain ⟨rfl, rfl, rfl, rfl, rfl⟩ := qs_go h2z
  have hI0 := hI
  obtain ⟨a1, a2, a3, a4, a5, a6, a7, a8, a9⟩ := hI
  obtain ⟨hz1, hz2, -, -⟩ := hkt.2.2.2.2.1
  obtain ⟨g1, g2⟩ := a8 65 (Or.inr (by decide))
  have hcell : H[ra 65]? = some (rc 65) := by
    have h9 := a3.1 65 0 (Nat.lt_of_lt_of_le g1 (a6 65))
    rw [← g2, ← a4 65 0 g1]
    exact h9
  have key : ∀ (k0 : Nat) (n : String), qk_tag (k0 + 1) = 5 → Cond.fieldLink (qt_cn (qt_own y)) ix "PeriodKernel$Word" n "[I" ∈ qw → qn_z1 "PeriodKernel$Word" n "[I" (.ref (ra (k0 + 1))) (rc 65) (ra 65) s → k = k0 + 1 → W p l e R s m args below meth c H locs kc.1 kc.2 Q (F0 m pc ls (st.map (tv ad))) := by
    intro k0 n ht hlk hz hk
    subst hk
    obtain ⟨e1, e2⟩ := a8 (k0 + 1) (Or.inl ht)
    obtain ⟨cf, kf, fi, f, b1, b2, b3, b4, b5, b6, -⟩ := hz
    have hab : 0 < hp.1 (k0 + 1) := Nat.lt_of_lt_of_le e1 (a6 (k0 + 1))
    have k2 := kk H locs ls ad ⟨a1, a2.psh hab, a3, a4, a5, a6, a7, a8, a9⟩
    rw [List.map_cons, show tv ad (vR (k0 + 1) 0) = .ref (ra (k0 + 1)) from congrArg Value.ref ((a4 (k0 + 1) 0 e1).trans e2)] at k2
    exact W.gets hx hb hown (hts _ hlk) b1 b2 b3 b4 hcell (fun z => by rw [z] at b5; cases b5) b6 rfl hdg k2
  rcases qo_sta hs with ⟨hk, hlk⟩ | ⟨hk, hlk⟩
  · exact key 62 "TAKES" (by decide) hlk hz1 hk
  · exact key 63 "LEAVES" (by decide) hlk hz2 hk
end Q2
