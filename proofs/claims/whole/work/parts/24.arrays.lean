/-! arrays and makings -/
section Q3
variable {p : Program} {l : Launch} {e : Env} {R : Room} {s : State} {m : MethodId} {args : Array Value} {below : List Frame} {meth : Method} {c : Code} {H : Heap} {locs : List Loc} {cells slots : Nat} {Q : State → Prop}
variable {pc : Nat} {ls : Array Slot} {D : va_G} {cA : Nat → ClassId} {rc : Nat → Cell} {ra : Nat → Nat} {h0 : qm_H} {ad0 ad : Nat → Nat → Nat} {ro : Nat → Nat × (Nat → Int32)} {y len pc' : Nat} {lv lv' : qm_L} {st st' : List qm_V} {hp hp' : qm_H} {kc kc' : qm_C}
theorem qs_wf_def (k j : Nat) (h : qm_H) : qs_wf h (qk_def k j) := by
  rcases qo_def k j with e | e | e <;> rw [e] <;> trivial
theorem qs_tv_def (ad : Nat → Nat → Nat) (k j : Nat) : tv ad (qk_def k j) = qo_dv (qk_dt k j) := by
  unfold qk_def qo_dv
  generalize qk_dt k j = n
  match n with
  | 0 => rfl
  | 1 => rfl
  | n + 2 => rfl
theorem qs_dfa {k : Nat} (h1 : 1 ≤ qk_tag k) (h3 : qk_tag k ≤ 3) (ad : Nat → Nat → Nat) (j : Nat) : defaultValue (qk_ty k) = tv ad (qk_def k j) := by
  rw [(qo_arr0 k (qo_klt (by omega)) h1 h3).2, qs_tv_def, qo_dta h1]
  have : qk_tag k = 1 ∨ qk_tag k = 2 ∨ qk_tag k = 3 := by omega
  rcases this with e | e | e <;> rw [e] <;> rfl
theorem qs_dfn {k : Nat} (h : qk_tag k = 4) (ad : Nat → Nat → Nat) (j : Nat) : Value.null = tv ad (qk_def k j) := by
  rw [qs_tv_def, qo_dta (by omega), h]
  rfl
theorem qs_toI {v : qm_V} {x : Int32} (h : qm_toI v = some x) : v = vI x := by
  unfold qm_toI at h
  split at h
  · cases h; rfl
  · cases h
theorem qs_iaload (X : qs_cx p R s m args meth c D cA rc ra ro y)  (hdg : decode (qt_bytes y) pc = .ok (.iaload, len)) (h : qm_1 ro y .iaload len pc lv st hp kc = some (pc', lv', st', hp', kc')) (hI : qs_I D cA rc ra y h0 ad0 s lv st hp H locs ls ad)
    (kk : ∀ (H1 : Heap) (locs1 : List Loc) (ls1 : Array Slot) (ad1 : Nat → Nat → Nat), qs_I D cA rc ra y h0 ad0 s lv' st' hp' H1 locs1 ls1 ad1 → W p l e R s m args below meth c H1 locs1 kc'.1 kc'.2 Q (F0 m pc' ls1 (st'.map (tv ad1)))) : W p l e R s m args below meth c H locs kc.1 kc.2 Q (F0 m pc ls (st.map (tv ad))) := by
  obtain ⟨hx, hb, hml, hown, hts, hkt, -, -, hnm⟩ := X
  replace h : (qm_ln len 1 ((qm_pir st).bind fun q => if qk_tag q.2.1 = 1 then (if qm_inb q.1 (qk_len q.2.1) = true then (qm_toI (hp.2 q.2.1 q.2.2.1 q.1.toNatClampNeg)).bind fun x => qm_go (pc + 1) lv (vI x :: q.2.2.2) hp kc else none) else if qk_tag q.2.1 = 5 then (if qm_inb q.1 (ro q.2.1).1 = true then qm_go (pc + 1) lv (vI ((ro q.2.1).2 q.1.toNatClampNeg) :: q.2.2.2) hp kc else none) else none)) = some (pc', lv', st', hp', kc') := h
  obtain ⟨rfl, h1z⟩ := qs_ln h
  obtain ⟨⟨j, a, b, r⟩, hq, h2z⟩ := qs_bd h1z
  obtain ⟨a, rfl, rfl⟩ := qs_pir hq
  split at h2z
  · rename_i ht
    replace ht : qk_tag (a + 1) = 1 := ht
    obtain ⟨hin, h3z⟩ := qs_if h2z
    obtain ⟨x, hv, h4z⟩ := qs_bd h3z
    obtain ⟨rfl, rfl, rfl, rfl, rfl⟩ := qs_go h4z
    obtain ⟨a1, a2, a3, a4, a5, a6, a7, a8, a9⟩ := hI
    have hab : b < hp.1 (a + 1) := a2.pop.top
    have hcell := (qs_celA (by omega) (by omega)).mp (a3.1 (a + 1) b hab)
    replace hin := qs_inb hin
    have hv := qs_toI hv
    have hty := (hkt.2.1 (a + 1) (by omega) (by omega)).1
    rw [qo_ty1 ht] at hty
    exact W.iald (v := .int x) hx hb hcell (hty _ _) (fun q => by cases q) (by rw [arrV_size]; exact hin) (by rw [arrV_read _ _ (qs_in_lt hin)]; exact congrArg (fun z => some (tv ad z)) hv) rfl rfl hdg (kk H locs ls ad ⟨a1, a2.pop.pop.psh trivial, a3, a4, a5, a6, a7, a8, a9⟩)
  · obtain ⟨ht, h5z⟩ := qs_if h2z
    obtain ⟨hin, h6z⟩ := qs_if h5z
    obtain ⟨rfl, rfl, rfl, rfl, rfl⟩ := qs_go h6z
    obtain ⟨a1, a2, a3, a4, a5, a6, a7, a8, a9⟩ := hI
    have hab : b < hp.1 (a + 1) := a2.pop.top
    have hcell := qs_cel5 (a3.1 (a + 1) b hab) ht
    replace hin := qs_inb hin
    have hlt := qs_in_lt hin
    obtain ⟨g1, g2, g3, g4⟩ := hkt.2.2.1 (a + 1) ht
    exact W.iald (v := .int ((ro (a + 1)).2 j.toNatClampNeg)) hx hb hcell g1 g2 (by rw [g3]; exact hin) (g4 _ hlt) rfl rfl hdg (kk H locs ls ad ⟨a1, a2.pop.pop.psh trivial, a3, a4, a5, a6, a7, a8, a9⟩)
theorem qs_baload (X : qs_cx p R s m args meth c D cA rc ra ro y)  (hdg : decode (qt_bytes y) pc = .ok (.baload, len)) (h : qm_1 ro y .baload len pc lv st hp kc = some (pc', lv', st', hp', kc')) (hI : qs_I D cA rc ra y h0 ad0 s lv st hp H locs ls ad)
    (kk : ∀ (H1 : Heap) (locs1 : List Loc) (ls1 : Array Slot) (ad1 : Nat → Nat → Nat), qs_I D cA rc ra y h0 ad0 s lv' st' hp' H1 locs1 ls1 ad1 → W p l e R s m args below meth c H1 locs1 kc'.1 kc'.2 Q (F0 m pc' ls1 (st'.map (tv ad1)))) : W p l e R s m args below meth c H locs kc.1 kc.2 Q (F0 m pc ls (st.map (tv ad))) := by
  obtain ⟨hx, hb, hml, hown, hts, hkt, -, -, hnm⟩ := X
  replace h : (qm_ln len 1 ((qm_pir st).bind fun q => if qk_tag q.2.1 = 2 ∧ qm_inb q.1 (qk_len q.2.1) = true then (qm_toI (hp.2 q.2.1 q.2.2.1 q.1.toNatClampNeg)).bind fun x => qm_go (pc + 1) lv (vI x :: q.2.2.2) hp kc else none)) = some (pc', lv', st', hp', kc') := h
  obtain ⟨rfl, h1z⟩ := qs_ln h
  obtain ⟨⟨j, a, b, r⟩, hq, h2z⟩ := qs_bd h1z
  obtain ⟨a, rfl, rfl⟩ := qs_pir hq
  obtain ⟨⟨ht, hin⟩, h3z⟩ := qs_if h2z
  obtain ⟨x, hv, h4z⟩ := qs_bd h3z
  obtain ⟨rfl, rfl, rfl, rfl, rfl⟩ := qs_go h4z
  obtain ⟨a1, a2, a3, a4, a5, a6, a7, a8, a9⟩ := hI
  have hab : b < hp.1 (a + 1) := a2.pop.top
  replace ht : qk_tag (a + 1) = 2 := ht
  have hcell := (qs_celA (by omega) (by omega)).mp (a3.1 (a + 1) b hab)
  replace hin := qs_inb hin
  have hty := (hkt.2.1 (a + 1) (by omega) (by omega)).1
  rw [qo_ty2 ht] at hty
  have hv := qs_toI hv
  exact W.zald (v := .int x) hx hb hcell (hty _ _) (fun q => by cases q) (by rw [arrV_size]; exact hin) (by rw [arrV_read _ _ (qs_in_lt hin)]; exact congrArg (fun z => some (tv ad z)) hv) rfl rfl hdg (kk H locs ls ad ⟨a1, a2.pop.pop.psh trivial, a3, a4, a5, a6, a7, a8, a9⟩)
theorem qs_laload (X : qs_cx p R s m args meth c D cA rc ra ro y)  (hdg : decode (qt_bytes y) pc = .ok (.laload, len)) (h : qm_1 ro y .laload len pc lv st hp kc = some (pc', lv', st', hp', kc')) (hI : qs_I D cA rc ra y h0 ad0 s lv st hp H locs ls ad)
    (kk : ∀ (H1 : Heap) (locs1 : List Loc) (ls1 : Array Slot) (ad1 : Nat → Nat → Nat), qs_I D cA rc ra y h0 ad0 s lv' st' hp' H1 locs1 ls1 ad1 → W p l e R s m args below meth c H1 locs1 kc'.1 kc'.2 Q (F0 m pc' ls1 (st'.map (tv ad1)))) : W p l e R s m args below meth c H locs kc.1 kc.2 Q (F0 m pc ls (st.map (tv ad))) := by
  obtain ⟨hx, hb, hml, hown, hts, hkt, -, -, hnm⟩ := X
  replace h : (qm_ln len 1 ((qm_pir st).bind fun q => if qk_tag q.2.1 = 3 ∧ qm_inb q.1 (qk_len q.2.1) = true then qm_go (pc + 1) lv (hp.2 q.2.1 q.2.2.1 q.1.toNatClampNeg :: q.2.2.2) hp kc else none)) = some (pc', lv', st', hp', kc') := h
  obtain ⟨rfl, h1z⟩ := qs_ln h
  obtain ⟨⟨j, a, b, r⟩, hq, h2z⟩ := qs_bd h1z
  obtain ⟨a, rfl, rfl⟩ := qs_pir hq
  obtain ⟨⟨ht, hin⟩, h3z⟩ := qs_if h2z
  obtain ⟨rfl, rfl, rfl, rfl, rfl⟩ := qs_go h3z
  obtain ⟨a1, a2, a3, a4, a5, a6, a7, a8, a9⟩ := hI
  have hab : b < hp.1 (a + 1) := a2.pop.top
  replace ht : qk_tag (a + 1) = 3 := ht
  have hcell := (qs_celA (by omega) (by omega)).mp (a3.1 (a + 1) b hab)
  replace hin := qs_inb hin
  have hty := (hkt.2.1 (a + 1) (by omega) (by omega)).1
  rw [qo_ty3 ht] at hty
  exact W.lald (v := tv ad (hp.2 (a + 1) b j.toNatClampNeg)) hx hb hcell (hty _ _) (fun q => by cases q) (by rw [arrV_size]; exact hin) (by rw [arrV_read _ _ (qs_in_lt hin)]) rfl rfl hdg (kk H locs ls ad ⟨a1, a2.pop.pop.psh (a3.2.2 _ _ _ hab (qs_in_lt hin)), a3, a4, a5, a6, a7, a8, a9⟩)
theorem qs_aaload (X : qs_cx p R s m args meth c D cA rc ra ro y)  (hdg : decode (qt_bytes y) pc = .ok (.aaload, len)) (h : qm_1 ro y .aaload len pc lv st hp kc = some (pc', lv', st', hp', kc')) (hI : qs_I D cA rc ra y h0 ad0 s lv st hp H locs ls ad)
    (kk : ∀ (H1 : Heap) (locs1 : List Loc) (ls1 : Array Slot) (ad1 : Nat → Nat → Nat), qs_I D cA rc ra y h0 ad0 s lv' st' hp' H1 locs1 ls1 ad1 → W p l e R s m args below meth c H1 locs1 kc'.1 kc'.2 Q (F0 m pc' ls1 (st'.map (tv ad1)))) : W p l e R s m args below meth c H locs kc.1 kc.2 Q (F0 m pc ls (st.map (tv ad))) := by
  obtain ⟨hx, hb, hml, hown, hts, hkt, -, -, hnm⟩ := X
  replace h : (qm_ln len 1 ((qm_pir st).bind fun q => if qk_tag q.2.1 = 4 ∧ qm_inb q.1 (qk_len q.2.1) = true then qm_go (pc + 1) lv (hp.2 q.2.1 q.2.2.1 q.1.toNatClampNeg :: q.2.2.2) hp kc else none)) = some (pc', lv', st', hp', kc') := h
  obtain ⟨rfl, h1z⟩ := qs_ln h
  obtain ⟨⟨j, a, b, r⟩, hq, h2z⟩ := qs_bd h1z
  obtain ⟨a, rfl, rfl⟩ := qs_pir hq
  obtain ⟨⟨ht, hin⟩, h3z⟩ := qs_if h2z
  obtain ⟨rfl, rfl, rfl, rfl, rfl⟩ := qs_go h3z
  obtain ⟨a1, a2, a3, a4, a5, a6, a7, a8, a9⟩ := hI
  have hab : b < hp.1 (a + 1) := a2.pop.top
  replace ht : qk_tag (a + 1) = 4 := ht
  have hcell := (qs_celA (by omega) (by omega)).mp (a3.1 (a + 1) b hab)
  replace hin := qs_inb hin
  have hty := (hkt.2.1 (a + 1) (by omega) (by omega)).1
  rw [qo_ty4 ht] at hty
  exact W.aald (ty := .object (qt_cn (qk_cls (a + 1)))) (v := tv ad (hp.2 (a + 1) b j.toNatClampNeg)) hx hb hcell (hty _ _) rfl (fun q => by cases q) (by rw [arrV_size]; exact hin) (by rw [arrV_read _ _ (qs_in_lt hin)]) rfl rfl hdg (kk H locs ls ad ⟨a1, a2.pop.pop.psh (a3.2.2 _ _ _ hab (qs_in_lt hin)), a3, a4, a5, a6, a7, a8, a9⟩)
theorem qs_iastore (X : qs_cx p R s m args meth c D cA rc ra ro y)  (hdg : decode (qt_bytes y) pc = .ok (.iastore, len)) (h : qm_1 ro y .iastore len pc lv st hp kc = some (pc', lv', st', hp', kc')) (hI : qs_I D cA rc ra y h0 ad0 s lv st hp H locs ls ad)
    (kk : ∀ (H1 : Heap) (locs1 : List Loc) (ls1 : Array Slot) (ad1 : Nat → Nat → Nat), qs_I D cA rc ra y h0 ad0 s lv' st' hp' H1 locs1 ls1 ad1 → W p l e R s m args below meth c H1 locs1 kc'.1 kc'.2 Q (F0 m pc' ls1 (st'.map (tv ad1)))) : W p l e R s m args below meth c H locs kc.1 kc.2 Q (F0 m pc ls (st.map (tv ad))) := by
  obtain ⟨hx, hb, hml, hown, hts, hkt, -, -, hnm⟩ := X
  replace h : (qm_ln len 1 ((qm_piir st).bind fun q => if qk_tag q.2.2.1 = 1 ∧ qm_inb q.2.1 (qk_len q.2.2.1) = true ∧ qt_pure y = false then qm_go (pc + 1) lv q.2.2.2.2 (qm_put hp q.2.2.1 q.2.2.2.1 q.2.1.toNatClampNeg (vI q.1)) kc else none)) = some (pc', lv', st', hp', kc') := h
  obtain ⟨rfl, h1z⟩ := qs_ln h
  obtain ⟨⟨x, j, a, b, r⟩, hq, h2z⟩ := qs_bd h1z
  obtain ⟨a, rfl, rfl⟩ := qs_piir hq
  obtain ⟨⟨ht, hin, hpu⟩, h3z⟩ := qs_if h2z
  obtain ⟨rfl, rfl, rfl, rfl, rfl⟩ := qs_go h3z
  replace ht : qk_tag (a + 1) = 1 := ht
  replace hpu : qt_pure y = false := hpu
  have hab : b < hp.1 (a + 1) := hI.2.1.pop.pop.top
  have hcell := (qs_celA (by omega) (by omega)).mp (hI.2.2.1.1 (a + 1) b hab)
  replace hin := qs_inb hin
  have hty := (hkt.2.1 (a + 1) (by omega) (by omega)).1
  rw [qo_ty1 ht] at hty
  refine W.iast hx hb hcell (hty _ _) (fun q => by cases q) (by rw [arrV_size]; exact hin) rfl rfl hdg ?_
  intro H1 e1 z1 o1
  refine kk H1 _ ls ad (hI.put (j := j.toNatClampNeg) hab (show qk_tag (a + 1) ≤ 4 by omega) trivial hI.2.1.pop.pop.pop.1 hpu ((qs_celA (show 1 ≤ qk_tag (a + 1) by omega) (show qk_tag (a + 1) ≤ 4 by omega)).mpr ?_) z1 o1)
  rw [e1, arrV_store]
  refine congrArg some (qs_arr_congr fun q _ => ?_)
  unfold updV
  dsimp only
  split <;> rfl
theorem qs_bastore (X : qs_cx p R s m args meth c D cA rc ra ro y)  (hdg : decode (qt_bytes y) pc = .ok (.bastore, len)) (h : qm_1 ro y .bastore len pc lv st hp kc = some (pc', lv', st', hp', kc')) (hI : qs_I D cA rc ra y h0 ad0 s lv st hp H locs ls ad)
    (kk : ∀ (H1 : Heap) (locs1 : List Loc) (ls1 : Array Slot) (ad1 : Nat → Nat → Nat), qs_I D cA rc ra y h0 ad0 s lv' st' hp' H1 locs1 ls1 ad1 → W p l e R s m args below meth c H1 locs1 kc'.1 kc'.2 Q (F0 m pc' ls1 (st'.map (tv ad1)))) : W p l e R s m args below meth c H locs kc.1 kc.2 Q (F0 m pc ls (st.map (tv ad))) := by
  obtain ⟨hx, hb, hml, hown, hts, hkt, -, -, hnm⟩ := X
  replace h : (qm_ln len 1 ((qm_piir st).bind fun q => if qk_tag q.2.2.1 = 2 ∧ qm_inb q.2.1 (qk_len q.2.2.1) = true ∧ (q.1 = 0 ∨ q.1 = 1) ∧ qt_pure y = false then qm_go (pc + 1) lv q.2.2.2.2 (qm_put hp q.2.2.1 q.2.2.2.1 q.2.1.toNatClampNeg (vI q.1)) kc else none)) = some (pc', lv', st', hp', kc') := h
  obtain ⟨rfl, h1z⟩ := qs_ln h
  obtain ⟨⟨x, j, a, b, r⟩, hq, h2z⟩ := qs_bd h1z
  obtain ⟨a, rfl, rfl⟩ := qs_piir hq
  obtain ⟨⟨ht, hin, h01, hpu⟩, h3z⟩ := qs_if h2z
  obtain ⟨rfl, rfl, rfl, rfl, rfl⟩ := qs_go h3z
  replace ht : qk_tag (a + 1) = 2 := ht
  replace hpu : qt_pure y = false := hpu
  have hab : b < hp.1 (a + 1) := hI.2.1.pop.pop.top
  have hcell := (qs_celA (by omega) (by omega)).mp (hI.2.2.1.1 (a + 1) b hab)
  replace hin := qs_inb hin
  have hty := (hkt.2.1 (a + 1) (by omega) (by omega)).1
  rw [qo_ty2 ht] at hty
  refine W.zast hx hb hcell (hty _ _) (fun q => by cases q) (by rw [arrV_size]; exact hin) rfl rfl hdg ?_
  intro H1 e1 z1 o1
  refine kk H1 _ ls ad (hI.put (j := j.toNatClampNeg) hab (show qk_tag (a + 1) ≤ 4 by omega) trivial hI.2.1.pop.pop.pop.1 hpu ((qs_celA (show 1 ≤ qk_tag (a + 1) by omega) (show qk_tag (a + 1) ≤ 4 by omega)).mpr ?_) z1 o1)
  have hna : narrow .boolean (.int x) = .int x := by rcases h01 with rfl | rfl <;> rfl
  rw [hna] at e1
  rw [e1, arrV_store]
  refine congrArg some (qs_arr_congr fun q _ => ?_)
  unfold updV
  dsimp only
  split <;> rfl
theorem qs_lastore (X : qs_cx p R s m args meth c D cA rc ra ro y)  (hdg : decode (qt_bytes y) pc = .ok (.lastore, len)) (h : qm_1 ro y .lastore len pc lv st hp kc = some (pc', lv', st', hp', kc')) (hI : qs_I D cA rc ra y h0 ad0 s lv st hp H locs ls ad)
    (kk : ∀ (H1 : Heap) (locs1 : List Loc) (ls1 : Array Slot) (ad1 : Nat → Nat → Nat), qs_I D cA rc ra y h0 ad0 s lv' st' hp' H1 locs1 ls1 ad1 → W p l e R s m args below meth c H1 locs1 kc'.1 kc'.2 Q (F0 m pc' ls1 (st'.map (tv ad1)))) : W p l e R s m args below meth c H locs kc.1 kc.2 Q (F0 m pc ls (st.map (tv ad))) := by
  obtain ⟨hx, hb, hml, hown, hts, hkt, -, -, hnm⟩ := X
  replace h : (qm_ln len 1 ((qm_plir st).bind fun q => if qk_tag q.2.2.1 = 3 ∧ qm_inb q.2.1 (qk_len q.2.2.1) = true ∧ qt_pure y = false then qm_go (pc + 1) lv q.2.2.2.2 (qm_put hp q.2.2.1 q.2.2.2.1 q.2.1.toNatClampNeg (vL q.1)) kc else none)) = some (pc', lv', st', hp', kc') := h
  obtain ⟨rfl, h1z⟩ := qs_ln h
  obtain ⟨⟨x, j, a, b, r⟩, hq, h2z⟩ := qs_bd h1z
  obtain ⟨a, rfl, rfl⟩ := qs_plir hq
  obtain ⟨⟨ht, hin, hpu⟩, h3z⟩ := qs_if h2z
  obtain ⟨rfl, rfl, rfl, rfl, rfl⟩ := qs_go h3z
  replace ht : qk_tag (a + 1) = 3 := ht
  replace hpu : qt_pure y = false := hpu
  have hab : b < hp.1 (a + 1) := hI.2.1.pop.pop.top
  have hcell := (qs_celA (by omega) (by omega)).mp (hI.2.2.1.1 (a + 1) b hab)
  replace hin := qs_inb hin
  have hty := (hkt.2.1 (a + 1) (by omega) (by omega)).1
  rw [qo_ty3 ht] at hty
  refine W.last hx hb hcell (hty _ _) (fun q => by cases q) (by rw [arrV_size]; exact hin) rfl rfl hdg ?_
  intro H1 e1 z1 o1
  refine kk H1 _ ls ad (hI.put (j := j.toNatClampNeg) hab (show qk_tag (a + 1) ≤ 4 by omega) trivial hI.2.1.pop.pop.pop.1 hpu ((qs_celA (show 1 ≤ qk_tag (a + 1) by omega) (show qk_tag (a + 1) ≤ 4 by omega)).mpr ?_) z1 o1)
  rw [e1, arrV_store]
  refine congrArg some (qs_arr_congr fun q _ => ?_)
  unfold updV
  dsimp only
  split <;> rfl
theorem qs_aastore (X : qs_cx p R s m args meth c D cA rc ra ro y)  (hdg : decode (qt_bytes y) pc = .ok (.aastore, len)) (h : qm_1 ro y .aastore len pc lv st hp kc = some (pc', lv', st', hp', kc')) (hI : qs_I D cA rc ra y h0 ad0 s lv st hp H locs ls ad)
    (kk : ∀ (H1 : Heap) (locs1 : List Loc) (ls1 : Array Slot) (ad1 : Nat → Nat → Nat), qs_I D cA rc ra y h0 ad0 s lv' st' hp' H1 locs1 ls1 ad1 → W p l e R s m args below meth c H1 locs1 kc'.1 kc'.2 Q (F0 m pc' ls1 (st'.map (tv ad1)))) : W p l e R s m args below meth c H locs kc.1 kc.2 Q (F0 m pc ls (st.map (tv ad))) := by
  obtain ⟨hx, hb, hml, hown, hts, hkt, -, -, hnm⟩ := X
  replace h : (qm_ln len 1 ((qm_prir st).bind fun q => if qk_tag q.2.2.2.1 = 4 ∧ qm_inb q.2.2.1 (qk_len q.2.2.2.1) = true ∧ qk_tag q.1 = 0 ∧ qk_cls q.1 = qk_cls q.2.2.2.1 ∧ qt_pure y = false then qm_go (pc + 1) lv q.2.2.2.2.2 (qm_put hp q.2.2.2.1 q.2.2.2.2.1 q.2.2.1.toNatClampNeg (vR q.1 q.2.1)) kc else none)) = some (pc', lv', st', hp', kc') := h
  obtain ⟨rfl, h1z⟩ := qs_ln h
  obtain ⟨⟨kv, iv, j, a, b, r⟩, hq, h2z⟩ := qs_bd h1z
  obtain ⟨kv, a, rfl, rfl, rfl⟩ := qs_prir hq
  obtain ⟨⟨ht, hin, hv0, hcc, hpu⟩, h3z⟩ := qs_if h2z
  obtain ⟨rfl, rfl, rfl, rfl, rfl⟩ := qs_go h3z
  replace ht : qk_tag (a + 1) = 4 := ht
  replace hpu : qt_pure y = false := hpu
  replace hv0 : qk_tag (kv + 1) = 0 := hv0
  replace hcc : qk_cls (kv + 1) = qk_cls (a + 1) := hcc
  have hab : b < hp.1 (a + 1) := hI.2.1.pop.pop.top
  have hvb : iv < hp.1 (kv + 1) := hI.2.1.top
  have hcell := (qs_celA (by omega) (by omega)).mp (hI.2.2.1.1 (a + 1) b hab)
  replace hin := qs_inb hin
  have hlt := qs_in_lt hin
  have h00 : ¬ j < 0 := fun q => hin (Or.inl q)
  obtain ⟨C, T, hc0⟩ := qo_kn hv0
  obtain ⟨-, hcls⟩ := hkt.1.1 _ _ hc0
  have hRA := (hkt.2.1 (a + 1) (by omega) (by omega)).2
  rw [qo_ty4c ht (hcc ▸ hc0)] at hRA
  obtain ⟨kA, comp, k1, k2, k3, -⟩ := hRA
  have hcomp : comp = D.1 (qk_cls (kv + 1)) := Option.some.inj (k3.symm.trans hcls.1)
  subst hcomp
  obtain ⟨cellV, g1, g2, g3, -⟩ := qs_cel0 (hI.2.2.1.1 (kv + 1) iv hvb) hv0
  have hcls0 := hcls
  obtain ⟨kC, hkC, -⟩ := hcls.2
  refine W.aast hx hb hcell (fun q h => by cases h) (fun h => by cases h) k1 k2 rfl hkC ⟨h00, by rw [arrV_size]; exact hlt⟩ g1 (fun q h => by rw [g3] at h; cases h) (by rw [g2]; exact hkC) (by rw [g2]; exact va_assign hcls0) rfl rfl hdg ?_
  intro H1 e1 z1 o1
  refine kk H1 _ ls ad (hI.put (j := j.toNatClampNeg) hab (show qk_tag (a + 1) ≤ 4 by omega) hvb hI.2.1.pop.pop.pop.1 hpu ((qs_celA (show 1 ≤ qk_tag (a + 1) by omega) (show qk_tag (a + 1) ≤ 4 by omega)).mpr ?_) z1 o1)
  rw [e1, arrV_store]
  refine congrArg some (qs_arr_congr fun q _ => ?_)
  unfold updV
  dsimp only
  split <;> rfl
theorem qs_arraylength (X : qs_cx p R s m args meth c D cA rc ra ro y)  (hdg : decode (qt_bytes y) pc = .ok (.arraylength, len)) (h : qm_1 ro y .arraylength len pc lv st hp kc = some (pc', lv', st', hp', kc')) (hI : qs_I D cA rc ra y h0 ad0 s lv st hp H locs ls ad)
    (kk : ∀ (H1 : Heap) (locs1 : List Loc) (ls1 : Array Slot) (ad1 : Nat → Nat → Nat), qs_I D cA rc ra y h0 ad0 s lv' st' hp' H1 locs1 ls1 ad1 → W p l e R s m args below meth c H1 locs1 kc'.1 kc'.2 Q (F0 m pc' ls1 (st'.map (tv ad1)))) : W p l e R s m args below meth c H locs kc.1 kc.2 Q (F0 m pc ls (st.map (tv ad))) := by
  obtain ⟨hx, hb, hml, hown, hts, hkt, -, -, hnm⟩ := X
  replace h : (qm_ln len 1 ((qm_pr st).bind fun q => if qk_tag q.1 = 5 then qm_go (pc + 1) lv (vI (Int32.ofNat (ro q.1).1) :: q.2.2) hp kc else if 1 ≤ qk_tag q.1 ∧ qk_tag q.1 ≤ 4 then qm_go (pc + 1) lv (vI (Int32.ofNat (qk_len q.1)) :: q.2.2) hp kc else none)) = some (pc', lv', st', hp', kc') := h
  obtain ⟨rfl, h1z⟩ := qs_ln h
  obtain ⟨⟨a, b, r⟩, hq, h2z⟩ := qs_bd h1z
  obtain ⟨a, rfl, rfl⟩ := qs_pr hq
  split at h2z
  · rename_i ht
    replace ht : qk_tag (a + 1) = 5 := ht
    obtain ⟨rfl, rfl, rfl, rfl, rfl⟩ := qs_go h2z
    obtain ⟨a1, a2, a3, a4, a5, a6, a7, a8, a9⟩ := hI
    have hab : b < hp.1 (a + 1) := a2.top
    have hcell := qs_cel5 (a3.1 (a + 1) b hab) ht
    obtain ⟨g1, g2, g3, g4⟩ := hkt.2.2.1 (a + 1) ht
    exact W.alen (n := Int32.ofNat (ro (a + 1)).1) hx hb hcell g1 (by rw [g3]) rfl rfl hdg (kk H locs ls ad ⟨a1, a2.pop.psh trivial, a3, a4, a5, a6, a7, a8, a9⟩)
  · obtain ⟨⟨ht1, ht4⟩, h3z⟩ := qs_if h2z
    obtain ⟨rfl, rfl, rfl, rfl, rfl⟩ := qs_go h3z
    obtain ⟨a1, a2, a3, a4, a5, a6, a7, a8, a9⟩ := hI
    have hab : b < hp.1 (a + 1) := a2.top
    have hcell := (qs_celA ht1 ht4).mp (a3.1 (a + 1) b hab)
    have hty := (hkt.2.1 (a + 1) ht1 ht4).1
    exact W.alen (n := Int32.ofNat (qk_len (a + 1))) hx hb hcell (hty _ _) (by rw [arrV_size]) rfl rfl hdg (kk H locs ls ad ⟨a1, a2.pop.psh trivial, a3, a4, a5, a6, a7, a8, a9⟩)
theorem qs_map_ext {h0 : qm_H} {ad0 ad : Nat → Nat → Nat} (he : qs_ext h0 ad0 ad) {r : List qm_V} (hr : ∀ w ∈ r, qs_wf h0 w) : r.map (tv ad) = r.map (tv ad0) := List.map_congr_left fun w hw => qs_tv_wf he (hr w hw)
theorem qs_new (X : qs_cx p R s m args meth c D cA rc ra ro y) {ix : Nat} (hcells : kc'.1 ≤ R.cells) (hslots : kc'.2 ≤ R.slots) (hdg : decode (qt_bytes y) pc = .ok (.new ix, len)) (h : qm_1 ro y (.new ix) len pc lv st hp kc = some (pc', lv', st', hp', kc')) (hI : qs_I D cA rc ra y h0 ad0 s lv st hp H locs ls ad)
    (kk : ∀ (H1 : Heap) (locs1 : List Loc) (ls1 : Array Slot) (ad1 : Nat → Nat → Nat), qs_I D cA rc ra y h0 ad0 s lv' st' hp' H1 locs1 ls1 ad1 → W p l e R s m args below meth c H1 locs1 kc'.1 kc'.2 Q (F0 m pc' ls1 (st'.map (tv ad1)))) : W p l e R s m args below meth c H locs kc.1 kc.2 Q (F0 m pc ls (st.map (tv ad))) := by
  obtain ⟨hx, hb, hml, hown, hts, hkt, -, -, hnm⟩ := X
  replace h : (qm_ln len 3 ((qt_site y pc).bind fun k => if 0 < k ∧ qk_tag k = 0 ∧ qt_cix (qt_own y) ix = some (qk_cls k) ∧ qt_pure y = false then qm_go (pc + 3) lv (vR k (hp.1 k) :: st) (qm_new hp k (qk_def k)) (kc.1 + 1, kc.2 + qk_len k) else none)) = some (pc', lv', st', hp', kc') := h
  obtain ⟨rfl, h1z⟩ := qs_ln h
  obtain ⟨k, hs, h2z⟩ := qs_bd h1z
  obtain ⟨⟨h0k, ht, hcx, hpu⟩, h3z⟩ := qs_if h2z
  obtain ⟨rfl, rfl, rfl, rfl, rfl⟩ := qs_go h3z
  obtain ⟨C, T, hc0⟩ := qo_kn ht
  obtain ⟨hcn, hinst, hini, -⟩ := qo_cls1 hc0
  have hcl := qo_cix hcx
  rw [hcn] at hcl
  have hin := qo_lay hc0
  have htys := qo_types hc0
  have hKn := hkt.1.1 _ _ hc0
  refine W.newcK hx hb hown (hts _ hcl) (hts _ hinst) (hts _ hini) rfl hdg hcells hslots hKn.2.1 rfl fun H1 kC hkC e1 z1 o1 => ?_
  have hsz : qs_nad hp ad k H.size k (hp.1 k) = H.size := qs_nad_self _ _ _ _
  have hJ := hI.new (r := st) (k := k) (f := qk_def k) (H1 := H1) (fun j => qs_wf_def k j hp) hI.2.1.1 hpu h0k (by omega) (qs_celO ht (by
    rw [hsz]
    exact (u_born (qk_fty (qk_cls k)) hts hin hKn hkC e1 htys).to (fun j hj => (qo_dfl0 k (qo_klt (by rw [ht]; decide)) ht j hj).trans (qs_tv_def _ k j).symm))) z1 o1
  have k2 := kk H1 locs ls _ hJ
  rw [List.map_cons, show tv (qs_nad hp ad k H.size) (vR k (hp.1 k)) = .ref H.size from by cases k with | zero => exact absurd h0k (Nat.lt_irrefl 0) | succ k => exact congrArg Value.ref hsz, qs_map_ext (qs_nad_ext hp ad k H.size) hI.2.1.1] at k2
  exact k2
theorem qs_newarray (X : qs_cx p R s m args meth c D cA rc ra ro y) {ty : ArrayType} (hcells : kc'.1 ≤ R.cells) (hslots : kc'.2 ≤ R.slots) (hdg : decode (qt_bytes y) pc = .ok (.newarray ty, len)) (h : qm_1 ro y (.newarray ty) len pc lv st hp kc = some (pc', lv', st', hp', kc')) (hI : qs_I D cA rc ra y h0 ad0 s lv st hp H locs ls ad)
    (kk : ∀ (H1 : Heap) (locs1 : List Loc) (ls1 : Array Slot) (ad1 : Nat → Nat → Nat), qs_I D cA rc ra y h0 ad0 s lv' st' hp' H1 locs1 ls1 ad1 → W p l e R s m args below meth c H1 locs1 kc'.1 kc'.2 Q (F0 m pc' ls1 (st'.map (tv ad1)))) : W p l e R s m args below meth c H locs kc.1 kc.2 Q (F0 m pc ls (st.map (tv ad))) := by
  obtain ⟨hx, hb, hml, hown, hts, hkt, -, -, hnm⟩ := X
  replace h : (qm_ln len 2 ((qm_p1 st).bind fun q => (qt_site y pc).bind fun k => if 0 < k ∧ q.1 = Int32.ofNat (qk_len k) ∧ ((ty = .int ∧ qk_tag k = 1) ∨ (ty = .boolean ∧ qk_tag k = 2) ∨ (ty = .long ∧ qk_tag k = 3)) ∧ qt_pure y = false then qm_go (pc + 2) lv (vR k (hp.1 k) :: q.2) (qm_new hp k (qk_def k)) (kc.1 + 1, kc.2 + qk_len k) else none)) = some (pc', lv', st', hp', kc') := h
  obtain ⟨rfl, h1z⟩ := qs_ln h
  obtain ⟨⟨x, r⟩, hq, h2z⟩ := qs_bd h1z
  obtain rfl := qs_p1 hq
  obtain ⟨k, hs, h3z⟩ := qs_bd h2z
  obtain ⟨⟨h0k, hxn, hty, hpu⟩, h4z⟩ := qs_if h3z
  obtain ⟨rfl, rfl, rfl, rfl, rfl⟩ := qs_go h4z
  replace hxn : x = Int32.ofNat (qk_len k) := hxn
  subst hxn
  have hlen : qk_len k < 65536 := qo_len k
  have ht : 1 ≤ qk_tag k ∧ qk_tag k ≤ 3 := by rcases hty with ⟨-, q⟩ | ⟨-, q⟩ | ⟨-, q⟩ <;> omega
  have hte : newarray.typeOf ty = qk_ty k := by rcases hty with ⟨rfl, q⟩ | ⟨rfl, q⟩ | ⟨rfl, q⟩ <;> first | exact (qo_ty1 q).symm | exact (qo_ty2 q).symm | exact (qo_ty3 q).symm
  have hbts : qk_len k * componentBytes (newarray.typeOf ty) ≤ 536870912 := by rcases hty with ⟨rfl, -⟩ | ⟨rfl, -⟩ | ⟨rfl, -⟩ <;> (show qk_len k * _ ≤ _) <;> simp [newarray.typeOf, componentBytes] <;> omega
  have harr : (Cond.arrayClass (newarray.typeOf ty)).before args s = true := hts _ (by rw [hte]; exact qo_arr ht.1 ht.2)
  refine va_newaK hx hb harr rfl hdg rfl (nI_pos (by omega)) (nI_clamp (by omega)) hbts hcells hslots rfl fun H1 cA' e1 z1 o1 hAr hNm => ?_
  have hcA : cA' = cA k := by
    have hRA := (hkt.2.1 k ht.1 (by omega)).2
    rw [← hte] at hRA
    rcases hty with ⟨rfl, -⟩ | ⟨rfl, -⟩ | ⟨rfl, -⟩ <;> exact Option.some.inj (hNm.symm.trans hRA)
  subst hcA
  have hsz : qs_nad hp ad k H.size k (hp.1 k) = H.size := qs_nad_self _ _ _ _
  have hJ := hI.new (r := r) (k := k) (f := qk_def k) (H1 := H1) (fun j => qs_wf_def k j hp) hI.2.1.pop.1 hpu h0k (by omega) ((qs_celA ht.1 (by omega)).mpr (by
    rw [hsz, e1, hte]
    exact congrArg some (qs_arr_congr fun j _ => qs_dfa ht.1 ht.2 _ j))) z1 o1
  have k2 := kk H1 locs ls _ hJ
  rw [List.map_cons, show tv (qs_nad hp ad k H.size) (vR k (hp.1 k)) = .ref H.size from by cases k with | zero => exact absurd h0k (Nat.lt_irrefl 0) | succ k => exact congrArg Value.ref hsz, qs_map_ext (qs_nad_ext hp ad k H.size) hI.2.1.pop.1] at k2
  exact k2
theorem qs_anewarray (X : qs_cx p R s m args meth c D cA rc ra ro y) {ix : Nat} (hcells : kc'.1 ≤ R.cells) (hslots : kc'.2 ≤ R.slots) (hdg : decode (qt_bytes y) pc = .ok (.anewarray ix, len)) (h : qm_1 ro y (.anewarray ix) len pc lv st hp kc = some (pc', lv', st', hp', kc')) (hI : qs_I D cA rc ra y h0 ad0 s lv st hp H locs ls ad)
    (kk : ∀ (H1 : Heap) (locs1 : List Loc) (ls1 : Array Slot) (ad1 : Nat → Nat → Nat), qs_I D cA rc ra y h0 ad0 s lv' st' hp' H1 locs1 ls1 ad1 → W p l e R s m args below meth c H1 locs1 kc'.1 kc'.2 Q (F0 m pc' ls1 (st'.map (tv ad1)))) : W p l e R s m args below meth c H locs kc.1 kc.2 Q (F0 m pc ls (st.map (tv ad))) := by
  obtain ⟨hx, hb, hml, hown, hts, hkt, -, -, hnm⟩ := X
  replace h : (qm_ln len 3 ((qm_p1 st).bind fun q => (qt_site y pc).bind fun k => if 0 < k ∧ q.1 = Int32.ofNat (qk_len k) ∧ qk_tag k = 4 ∧ qt_cix (qt_own y) ix = some (qk_cls k) ∧ qt_pure y = false then qm_go (pc + 3) lv (vR k (hp.1 k) :: q.2) (qm_new hp k (qk_def k)) (kc.1 + 1, kc.2 + qk_len k) else none)) = some (pc', lv', st', hp', kc') := h
  obtain ⟨rfl, h1z⟩ := qs_ln h
  obtain ⟨⟨x, r⟩, hq, h2z⟩ := qs_bd h1z
  obtain rfl := qs_p1 hq
  obtain ⟨k, hs, h3z⟩ := qs_bd h2z
  obtain ⟨⟨h0k, hxn, ht, hcx, hpu⟩, h4z⟩ := qs_if h3z
  obtain ⟨rfl, rfl, rfl, rfl, rfl⟩ := qs_go h4z
  replace hxn : x = Int32.ofNat (qk_len k) := hxn
  subst hxn
  have hlen : qk_len k < 65536 := qo_len k
  have hcl := qo_cix hcx
  have hC := qo_ty4 ht
  have hov := va_AO.use (A := args) (hkt.2.2.2.2.2.1 k ht)
  have hn1 : (Int32.ofNat (qk_len k)).toNatClampNeg = qk_len k := nI_clamp (by omega)
  refine W.anew hx hb hown (hts _ hcl) hov rfl hdg rfl (nI_pos (by omega)) (by rw [hn1]; omega) hcells (by rw [hn1]; exact hslots) fun cA' kA comp f1 f2 f3 f4 => ?_
  rw [hn1]
  generalize hH1 : H.push ({ cls := cA', slots := Array.replicate (qk_len k) .null, vm := .none } : Cell) = H1
  have z1 : H1.size = H.size + 1 := by rw [← hH1, Array.size_push]
  have e1 : H1[H.size]? = some (arrV cA' (qk_len k) (fun _ => .null)) := by rw [← hH1, Array.getElem?_push_size, ← arrV_new]
  have o1 : ∀ q : Nat, q < H.size → H1[q]? = H[q]? := fun q hq => by rw [← hH1, Array.getElem?_push, if_neg (Nat.ne_of_lt hq)]
  have hcA : cA' = cA k := by
    have hRA := (hkt.2.1 k (by omega) (by omega)).2
    rw [hC] at hRA
    obtain ⟨_, _, _, _, _, k4⟩ := hRA
    exact Option.some.inj (f1.symm.trans k4)
  subst hcA
  have hsz : qs_nad hp ad k H.size k (hp.1 k) = H.size := qs_nad_self _ _ _ _
  have hJ := hI.new (r := r) (k := k) (f := qk_def k) (H1 := H1) (fun j => qs_wf_def k j hp) hI.2.1.pop.1 hpu h0k (by omega) ((qs_celA (by omega) (by omega)).mpr (by
    rw [hsz, e1]
    exact congrArg some (qs_arr_congr fun j _ => qs_dfn ht _ j))) z1 o1
  have k2 := kk H1 locs ls _ hJ
  rw [List.map_cons, show tv (qs_nad hp ad k H.size) (vR k (hp.1 k)) = .ref H.size from by cases k with | zero => exact absurd h0k (Nat.lt_irrefl 0) | succ k => exact congrArg Value.ref hsz, qs_map_ext (qs_nad_ext hp ad k H.size) hI.2.1.pop.1] at k2
  exact k2
end Q3
