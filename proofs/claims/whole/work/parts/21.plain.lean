/-! instructions that leave the heap alone -/
theorem qs_ln {len n : Nat} {x : Option qm_S} {z : qm_S} (h : qm_ln len n x = some z) : len = n ∧ x = some z := by
  unfold qm_ln at h
  split at h
  · rename_i e; exact ⟨e, h⟩
  · cases h
theorem qs_bd {α β : Type} {x : Option α} {f : α → Option β} {z : β} (h : x.bind f = some z) : ∃ q, x = some q ∧ f q = some z := by
  cases x with
  | none => cases h
  | some q => exact ⟨q, rfl, h⟩
theorem qs_go {a a' : Nat} {b b' : qm_L} {c c' : List qm_V} {d d' : qm_H} {e e' : qm_C} (h : qm_go a b c d e = some (a', b', c', d', e')) : a = a' ∧ b = b' ∧ c = c' ∧ d = d' ∧ e = e' := by
  unfold qm_go at h
  cases h
  exact ⟨rfl, rfl, rfl, rfl, rfl⟩
theorem qs_if {α : Type} {P : Prop} [Decidable P] {x : Option α} {z : α} (h : (if P then x else none) = some z) : P ∧ x = some z := by
  split at h
  · rename_i e; exact ⟨e, h⟩
  · cases h
theorem qs_ifn {α : Type} {P : Prop} [Decidable P] {x : Option α} {z : α} (h : (if P then none else x) = some z) : ¬ P ∧ x = some z := by
  split at h
  · cases h
  · rename_i e; exact ⟨e, h⟩
theorem qs_p1 {st : List qm_V} {x : Int32} {r : List qm_V} (h : qm_p1 st = some (x, r)) : st = vI x :: r := by
  unfold qm_p1 at h
  split at h
  · cases h; rfl
  · cases h
theorem qs_p2 {st : List qm_V} {x y : Int32} {r : List qm_V} (h : qm_p2 st = some (x, y, r)) : st = vI y :: vI x :: r := by
  unfold qm_p2 at h
  split at h
  · cases h; rfl
  · cases h
theorem qs_pr {st : List qm_V} {k i : Nat} {r : List qm_V} (h : qm_pr st = some (k, i, r)) : ∃ k0, k = k0 + 1 ∧ st = vR (k0 + 1) i :: r := by
  unfold qm_pr at h
  split at h
  · cases h; exact ⟨_, rfl, rfl⟩
  · cases h
theorem qs_pir {st : List qm_V} {j : Int32} {k i : Nat} {r : List qm_V} (h : qm_pir st = some (j, k, i, r)) : ∃ k0, k = k0 + 1 ∧ st = vI j :: vR (k0 + 1) i :: r := by
  unfold qm_pir at h
  split at h
  · cases h; exact ⟨_, rfl, rfl⟩
  · cases h
theorem qs_piir {st : List qm_V} {x j : Int32} {k i : Nat} {r : List qm_V} (h : qm_piir st = some (x, j, k, i, r)) : ∃ k0, k = k0 + 1 ∧ st = vI x :: vI j :: vR (k0 + 1) i :: r := by
  unfold qm_piir at h
  split at h
  · cases h; exact ⟨_, rfl, rfl⟩
  · cases h
theorem qs_plir {st : List qm_V} {x : Int64} {j : Int32} {k i : Nat} {r : List qm_V} (h : qm_plir st = some (x, j, k, i, r)) : ∃ k0, k = k0 + 1 ∧ st = vL x :: vI j :: vR (k0 + 1) i :: r := by
  unfold qm_plir at h
  split at h
  · cases h; exact ⟨_, rfl, rfl⟩
  · cases h
theorem qs_prir {st : List qm_V} {kv iv : Nat} {j : Int32} {k i : Nat} {r : List qm_V} (h : qm_prir st = some (kv, iv, j, k, i, r)) : ∃ k1 k0, kv = k1 + 1 ∧ k = k0 + 1 ∧ st = vR (k1 + 1) iv :: vI j :: vR (k0 + 1) i :: r := by
  unfold qm_prir at h
  split at h
  · cases h; exact ⟨_, _, rfl, rfl, rfl⟩
  · cases h
theorem qs_pvr {st : List qm_V} {v : qm_V} {k i : Nat} {r : List qm_V} (h : qm_pvr st = some (v, k, i, r)) : ∃ k0, k = k0 + 1 ∧ st = v :: vR (k0 + 1) i :: r := by
  unfold qm_pvr at h
  split at h
  · cases h; exact ⟨_, rfl, rfl⟩
  · cases h
theorem qs_pll {st : List qm_V} {x y : Int64} {r : List qm_V} (h : qm_pll st = some (x, y, r)) : st = vL y :: vL x :: r := by
  unfold qm_pll at h
  split at h
  · cases h; rfl
  · cases h
theorem qs_c1 {st : List qm_V} {v : qm_V} {r : List qm_V} (h : qm_c1 st = some (v, r)) : st = v :: r ∧ qm_cat v = 1 := by
  unfold qm_c1 at h
  split at h
  · obtain ⟨e, h⟩ := qs_if h; cases h; exact ⟨rfl, e⟩
  · cases h
theorem qs_c2 {st : List qm_V} {v w : qm_V} {r : List qm_V} (h : qm_c2 st = some (v, w, r)) : st = v :: w :: r ∧ qm_cat v = 1 ∧ qm_cat w = 1 := by
  unfold qm_c2 at h
  split at h
  · obtain ⟨e, h⟩ := qs_if h; cases h; exact ⟨rfl, e⟩
  · cases h
theorem qs_c3 {st : List qm_V} {v w u : qm_V} {r : List qm_V} (h : qm_c3 st = some (v, w, u, r)) : st = v :: w :: u :: r ∧ qm_cat v = 1 ∧ qm_cat w = 1 ∧ qm_cat u = 1 := by
  unfold qm_c3 at h
  split at h
  · obtain ⟨e, h⟩ := qs_if h; cases h; exact ⟨rfl, e⟩
  · cases h
theorem qs_geti {lv : qm_L} {k : Nat} {x : Int32} (h : qm_geti lv k = some x) : lv[k]? = some (some (vI x)) := by
  unfold qm_geti at h
  split at h
  · rename_i e; cases h; exact e
  · cases h
theorem qs_getr {lv : qm_L} {k a b : Nat} (h : qm_getr lv k = some (a, b)) : ∃ a0, a = a0 + 1 ∧ lv[k]? = some (some (vR (a0 + 1) b)) := by
  unfold qm_getr at h
  split at h
  · rename_i e; cases h; exact ⟨_, rfl, e⟩
  · cases h
theorem qs_to {pc t : Nat} {off : Int} (h : qm_to pc off = some t) : (pc : Int) + off = (t : Int) := by
  unfold qm_to at h
  split at h
  · rename_i e; cases h; exact e
  · cases h
/-- all references name cells that are there -/
def qs_ok (h : qm_H) (lv : qm_L) (st : List qm_V) : Prop := (∀ v ∈ st, qs_wf h v) ∧ ∀ v, some v ∈ lv → qs_wf h v
theorem qs_ok.psh {h : qm_H} {lv : qm_L} {st : List qm_V} {v : qm_V} (o : qs_ok h lv st) (hv : qs_wf h v) : qs_ok h lv (v :: st) := ⟨List.forall_mem_cons.mpr ⟨hv, o.1⟩, o.2⟩
theorem qs_ok.pop {h : qm_H} {lv : qm_L} {st : List qm_V} {v : qm_V} (o : qs_ok h lv (v :: st)) : qs_ok h lv st := ⟨(List.forall_mem_cons.mp o.1).2, o.2⟩
theorem qs_ok.top {h : qm_H} {lv : qm_L} {st : List qm_V} {v : qm_V} (o : qs_ok h lv (v :: st)) : qs_wf h v := (List.forall_mem_cons.mp o.1).1
theorem qs_ok.set {h : qm_H} {lv : qm_L} {st : List qm_V} {v : qm_V} {i : Nat} (o : qs_ok h lv st) (hv : qs_wf h v) : qs_ok h (lv.set i (some v)) st := ⟨o.1, fun w hw => by
  rcases List.mem_or_eq_of_mem_set hw with q | q
  · exact o.2 w q
  · cases q; exact hv⟩
theorem qs_ok.loc {h : qm_H} {lv : qm_L} {st : List qm_V} {v : qm_V} {i : Nat} (o : qs_ok h lv st) (hv : lv[i]? = some (some v)) : qs_wf h v := o.2 v (List.mem_of_getElem? hv)
/-- the instructions of this part -/
def qs_hf : Instr → Bool
  | .iconst _ => true
  | .bipush _ => true
  | .sipush _ => true
  | .ldc _ => true
  | .lconst _ => true
  | .iload _ => true
  | .iload_n _ => true
  | .aload _ => true
  | .aload_n _ => true
  | .istore _ => true
  | .istore_n _ => true
  | .astore _ => true
  | .astore_n _ => true
  | .iinc _ _ => true
  | .iadd => true
  | .isub => true
  | .imul => true
  | .idiv => true
  | .irem => true
  | .iand => true
  | .ior => true
  | .ishl => true
  | .ishr => true
  | .i2l => true
  | .lcmp => true
  | .dup => true
  | .dup2 => true
  | .dup_x1 => true
  | .dup_x2 => true
  | .pop => true
  | .ifCond _ _ => true
  | .if_icmp _ _ => true
  | .goto _ => true
  | .tableswitch _ _ _ _ => true
  | .lookupswitch _ _ => true
  | _ => false
section Q1
variable {p : Program} {l : Launch} {e : Env} {R : Room} {s : State} {m : MethodId} {args : Array Value} {below : List Frame} {meth : Method} {c : Code} {H : Heap} {locs : List Loc} {cells slots : Nat} {Q : State → Prop}
variable {cc : ByteArray} {pc : Nat} {ls : Array Slot} {ad : Nat → Nat → Nat} {ro : Nat → Nat × (Nat → Int32)} {y nL len pc' : Nat} {lv lv' : qm_L} {st st' : List qm_V} {hp hp' : qm_H} {kc kc' : qm_C}
theorem qs_iconst (hx : p.tables.exec = Jvm.exec) (hb : c.code = cc) (n : Int) (hdg : decode cc pc = .ok (.iconst n, len)) (h : qm_1 ro y (.iconst n) len pc lv st hp kc = some (pc', lv', st', hp', kc')) (hl : qs_lv ad nL ls lv) (ho : qs_ok hp lv st)
    (kk : hp' = hp → kc' = kc → ∀ ls', qs_lv ad nL ls' lv' → qs_ok hp lv' st' → W p l e R s m args below meth c H locs cells slots Q (F0 m pc' ls' (st'.map (tv ad)))) : W p l e R s m args below meth c H locs cells slots Q (F0 m pc ls (st.map (tv ad))) := by
  replace h : (qm_ln len 1 (qm_go (pc + 1) lv (vI (Int32.ofInt n) :: st) hp kc)) = some (pc', lv', st', hp', kc') := h
  obtain ⟨rfl, h1z⟩ := qs_ln h
  obtain ⟨rfl, rfl, rfl, rfl, rfl⟩ := qs_go h1z
  exact lv_iconst hx hb hdg rfl (kk rfl rfl ls hl (ho.psh trivial))
theorem qs_bipush (hx : p.tables.exec = Jvm.exec) (hb : c.code = cc) (n : Int) (hdg : decode cc pc = .ok (.bipush n, len)) (h : qm_1 ro y (.bipush n) len pc lv st hp kc = some (pc', lv', st', hp', kc')) (hl : qs_lv ad nL ls lv) (ho : qs_ok hp lv st)
    (kk : hp' = hp → kc' = kc → ∀ ls', qs_lv ad nL ls' lv' → qs_ok hp lv' st' → W p l e R s m args below meth c H locs cells slots Q (F0 m pc' ls' (st'.map (tv ad)))) : W p l e R s m args below meth c H locs cells slots Q (F0 m pc ls (st.map (tv ad))) := by
  replace h : (qm_ln len 2 (qm_go (pc + 2) lv (vI (Int8.ofInt n).toInt32 :: st) hp kc)) = some (pc', lv', st', hp', kc') := h
  obtain ⟨rfl, h1z⟩ := qs_ln h
  obtain ⟨rfl, rfl, rfl, rfl, rfl⟩ := qs_go h1z
  exact lv_bipush hx hb hdg rfl (kk rfl rfl ls hl (ho.psh trivial))
theorem qs_sipush (hx : p.tables.exec = Jvm.exec) (hb : c.code = cc) (n : Int) (hdg : decode cc pc = .ok (.sipush n, len)) (h : qm_1 ro y (.sipush n) len pc lv st hp kc = some (pc', lv', st', hp', kc')) (hl : qs_lv ad nL ls lv) (ho : qs_ok hp lv st)
    (kk : hp' = hp → kc' = kc → ∀ ls', qs_lv ad nL ls' lv' → qs_ok hp lv' st' → W p l e R s m args below meth c H locs cells slots Q (F0 m pc' ls' (st'.map (tv ad)))) : W p l e R s m args below meth c H locs cells slots Q (F0 m pc ls (st.map (tv ad))) := by
  replace h : (qm_ln len 3 (qm_go (pc + 3) lv (vI (Int16.ofInt n).toInt32 :: st) hp kc)) = some (pc', lv', st', hp', kc') := h
  obtain ⟨rfl, h1z⟩ := qs_ln h
  obtain ⟨rfl, rfl, rfl, rfl, rfl⟩ := qs_go h1z
  exact lv_sipush hx hb hdg rfl (kk rfl rfl ls hl (ho.psh trivial))
theorem qs_lconst (hx : p.tables.exec = Jvm.exec) (hb : c.code = cc) (n : Fin 2) (hdg : decode cc pc = .ok (.lconst n, len)) (h : qm_1 ro y (.lconst n) len pc lv st hp kc = some (pc', lv', st', hp', kc')) (hl : qs_lv ad nL ls lv) (ho : qs_ok hp lv st)
    (kk : hp' = hp → kc' = kc → ∀ ls', qs_lv ad nL ls' lv' → qs_ok hp lv' st' → W p l e R s m args below meth c H locs cells slots Q (F0 m pc' ls' (st'.map (tv ad)))) : W p l e R s m args below meth c H locs cells slots Q (F0 m pc ls (st.map (tv ad))) := by
  replace h : (qm_ln len 1 (qm_go (pc + 1) lv (vL (Int64.ofNat n) :: st) hp kc)) = some (pc', lv', st', hp', kc') := h
  obtain ⟨rfl, h1z⟩ := qs_ln h
  obtain ⟨rfl, rfl, rfl, rfl, rfl⟩ := qs_go h1z
  exact lv_lconst hx hb hdg rfl (kk rfl rfl ls hl (ho.psh trivial))
theorem qs_ldc (hx : p.tables.exec = Jvm.exec) (hb : c.code = cc) (ix : Nat) (hown : s.vm.findClass (qt_cn (qt_own y)) = some m.cls) (hcon : ∀ x, qt_con (qt_own y) ix = some x → (Jvm.Cond.constant (qt_cn (qt_own y)) ix x).before args s = true) (hdg : decode cc pc = .ok (.ldc ix, len)) (h : qm_1 ro y (.ldc ix) len pc lv st hp kc = some (pc', lv', st', hp', kc')) (hl : qs_lv ad nL ls lv) (ho : qs_ok hp lv st)
    (kk : hp' = hp → kc' = kc → ∀ ls', qs_lv ad nL ls' lv' → qs_ok hp lv' st' → W p l e R s m args below meth c H locs cells slots Q (F0 m pc' ls' (st'.map (tv ad)))) : W p l e R s m args below meth c H locs cells slots Q (F0 m pc ls (st.map (tv ad))) := by
  replace h : (qm_ln len 2 ((qt_con (qt_own y) ix).bind fun x => qm_go (pc + 2) lv (vI x :: st) hp kc)) = some (pc', lv', st', hp', kc') := h
  obtain ⟨rfl, h1z⟩ := qs_ln h
  obtain ⟨x, hq, h2z⟩ := qs_bd h1z
  obtain ⟨rfl, rfl, rfl, rfl, rfl⟩ := qs_go h2z
  exact lv_ldc hx hb hown (hcon x hq) hdg (kk rfl rfl ls hl (ho.psh trivial))
theorem qs_iload (hx : p.tables.exec = Jvm.exec) (hb : c.code = cc) (k : Nat) (hdg : decode cc pc = .ok (.iload k, len)) (h : qm_1 ro y (.iload k) len pc lv st hp kc = some (pc', lv', st', hp', kc')) (hl : qs_lv ad nL ls lv) (ho : qs_ok hp lv st)
    (kk : hp' = hp → kc' = kc → ∀ ls', qs_lv ad nL ls' lv' → qs_ok hp lv' st' → W p l e R s m args below meth c H locs cells slots Q (F0 m pc' ls' (st'.map (tv ad)))) : W p l e R s m args below meth c H locs cells slots Q (F0 m pc ls (st.map (tv ad))) := by
  replace h : (qm_ln len 2 ((qm_geti lv k).bind fun x => qm_go (pc + 2) lv (vI x :: st) hp kc)) = some (pc', lv', st', hp', kc') := h
  obtain ⟨rfl, h1z⟩ := qs_ln h
  obtain ⟨x, hq, h2z⟩ := qs_bd h1z
  obtain ⟨rfl, rfl, rfl, rfl, rfl⟩ := qs_go h2z
  have hv := qs_geti hq
  exact lv_iload hx hb hdg (hl.2.2.2 k _ hv) (kk rfl rfl ls hl (ho.psh trivial))
theorem qs_iload_n (hx : p.tables.exec = Jvm.exec) (hb : c.code = cc) (k : Fin 4) (hdg : decode cc pc = .ok (.iload_n k, len)) (h : qm_1 ro y (.iload_n k) len pc lv st hp kc = some (pc', lv', st', hp', kc')) (hl : qs_lv ad nL ls lv) (ho : qs_ok hp lv st)
    (kk : hp' = hp → kc' = kc → ∀ ls', qs_lv ad nL ls' lv' → qs_ok hp lv' st' → W p l e R s m args below meth c H locs cells slots Q (F0 m pc' ls' (st'.map (tv ad)))) : W p l e R s m args below meth c H locs cells slots Q (F0 m pc ls (st.map (tv ad))) := by
  replace h : (qm_ln len 1 ((qm_geti lv k).bind fun x => qm_go (pc + 1) lv (vI x :: st) hp kc)) = some (pc', lv', st', hp', kc') := h
  obtain ⟨rfl, h1z⟩ := qs_ln h
  obtain ⟨x, hq, h2z⟩ := qs_bd h1z
  obtain ⟨rfl, rfl, rfl, rfl, rfl⟩ := qs_go h2z
  have hv := qs_geti hq
  exact lv_iload_n hx hb hdg rfl (hl.2.2.2 k _ hv) (kk rfl rfl ls hl (ho.psh trivial))
theorem qs_aload (hx : p.tables.exec = Jvm.exec) (hb : c.code = cc) (k : Nat) (hdg : decode cc pc = .ok (.aload k, len)) (h : qm_1 ro y (.aload k) len pc lv st hp kc = some (pc', lv', st', hp', kc')) (hl : qs_lv ad nL ls lv) (ho : qs_ok hp lv st)
    (kk : hp' = hp → kc' = kc → ∀ ls', qs_lv ad nL ls' lv' → qs_ok hp lv' st' → W p l e R s m args below meth c H locs cells slots Q (F0 m pc' ls' (st'.map (tv ad)))) : W p l e R s m args below meth c H locs cells slots Q (F0 m pc ls (st.map (tv ad))) := by
  replace h : (qm_ln len 2 ((qm_getr lv k).bind fun x => qm_go (pc + 2) lv (vR x.1 x.2 :: st) hp kc)) = some (pc', lv', st', hp', kc') := h
  obtain ⟨rfl, h1z⟩ := qs_ln h
  obtain ⟨⟨a, b⟩, hq, h2z⟩ := qs_bd h1z
  obtain ⟨a, rfl, hv⟩ := qs_getr hq
  obtain ⟨rfl, rfl, rfl, rfl, rfl⟩ := qs_go h2z
  exact lv_aload hx hb hdg (hl.2.2.2 k _ hv) (kk rfl rfl ls hl (ho.psh (ho.loc hv)))
theorem qs_aload_n (hx : p.tables.exec = Jvm.exec) (hb : c.code = cc) (k : Fin 4) (hdg : decode cc pc = .ok (.aload_n k, len)) (h : qm_1 ro y (.aload_n k) len pc lv st hp kc = some (pc', lv', st', hp', kc')) (hl : qs_lv ad nL ls lv) (ho : qs_ok hp lv st)
    (kk : hp' = hp → kc' = kc → ∀ ls', qs_lv ad nL ls' lv' → qs_ok hp lv' st' → W p l e R s m args below meth c H locs cells slots Q (F0 m pc' ls' (st'.map (tv ad)))) : W p l e R s m args below meth c H locs cells slots Q (F0 m pc ls (st.map (tv ad))) := by
  replace h : (qm_ln len 1 ((qm_getr lv k).bind fun x => qm_go (pc + 1) lv (vR x.1 x.2 :: st) hp kc)) = some (pc', lv', st', hp', kc') := h
  obtain ⟨rfl, h1z⟩ := qs_ln h
  obtain ⟨⟨a, b⟩, hq, h2z⟩ := qs_bd h1z
  obtain ⟨a, rfl, hv⟩ := qs_getr hq
  obtain ⟨rfl, rfl, rfl, rfl, rfl⟩ := qs_go h2z
  exact lv_aload_n hx hb hdg rfl (hl.2.2.2 k _ hv) (kk rfl rfl ls hl (ho.psh (ho.loc hv)))
theorem qs_istore (hx : p.tables.exec = Jvm.exec) (hb : c.code = cc) (k : Nat) (hdg : decode cc pc = .ok (.istore k, len)) (h : qm_1 ro y (.istore k) len pc lv st hp kc = some (pc', lv', st', hp', kc')) (hl : qs_lv ad nL ls lv) (ho : qs_ok hp lv st)
    (kk : hp' = hp → kc' = kc → ∀ ls', qs_lv ad nL ls' lv' → qs_ok hp lv' st' → W p l e R s m args below meth c H locs cells slots Q (F0 m pc' ls' (st'.map (tv ad)))) : W p l e R s m args below meth c H locs cells slots Q (F0 m pc ls (st.map (tv ad))) := by
  replace h : (qm_ln len 2 ((qm_p1 st).bind fun q => if k < lv.length then qm_go (pc + 2) (lv.set k (some (vI q.1))) q.2 hp kc else none)) = some (pc', lv', st', hp', kc') := h
  obtain ⟨rfl, h1z⟩ := qs_ln h
  obtain ⟨⟨x, r⟩, hq, h2z⟩ := qs_bd h1z
  obtain rfl := qs_p1 hq
  obtain ⟨hk, h3z⟩ := qs_if h2z
  obtain ⟨rfl, rfl, rfl, rfl, rfl⟩ := qs_go h3z
  exact lv_istore hx hb hdg hl.has (by rw [← hl.1]; exact hk) rfl fun ls' h' => kk rfl rfl ls' (hl.set rfl h') (ho.pop.set trivial)
theorem qs_istore_n (hx : p.tables.exec = Jvm.exec) (hb : c.code = cc) (k : Fin 4) (hdg : decode cc pc = .ok (.istore_n k, len)) (h : qm_1 ro y (.istore_n k) len pc lv st hp kc = some (pc', lv', st', hp', kc')) (hl : qs_lv ad nL ls lv) (ho : qs_ok hp lv st)
    (kk : hp' = hp → kc' = kc → ∀ ls', qs_lv ad nL ls' lv' → qs_ok hp lv' st' → W p l e R s m args below meth c H locs cells slots Q (F0 m pc' ls' (st'.map (tv ad)))) : W p l e R s m args below meth c H locs cells slots Q (F0 m pc ls (st.map (tv ad))) := by
  replace h : (qm_ln len 1 ((qm_p1 st).bind fun q => if (k : Nat) < lv.length then qm_go (pc + 1) (lv.set k (some (vI q.1))) q.2 hp kc else none)) = some (pc', lv', st', hp', kc') := h
  obtain ⟨rfl, h1z⟩ := qs_ln h
  obtain ⟨⟨x, r⟩, hq, h2z⟩ := qs_bd h1z
  obtain rfl := qs_p1 hq
  obtain ⟨hk, h3z⟩ := qs_if h2z
  obtain ⟨rfl, rfl, rfl, rfl, rfl⟩ := qs_go h3z
  exact lv_istore_n hx hb hdg rfl hl.has (by rw [← hl.1]; exact hk) rfl fun ls' h' => kk rfl rfl ls' (hl.set rfl h') (ho.pop.set trivial)
theorem qs_astore (hx : p.tables.exec = Jvm.exec) (hb : c.code = cc) (k : Nat) (hdg : decode cc pc = .ok (.astore k, len)) (h : qm_1 ro y (.astore k) len pc lv st hp kc = some (pc', lv', st', hp', kc')) (hl : qs_lv ad nL ls lv) (ho : qs_ok hp lv st)
    (kk : hp' = hp → kc' = kc → ∀ ls', qs_lv ad nL ls' lv' → qs_ok hp lv' st' → W p l e R s m args below meth c H locs cells slots Q (F0 m pc' ls' (st'.map (tv ad)))) : W p l e R s m args below meth c H locs cells slots Q (F0 m pc ls (st.map (tv ad))) := by
  replace h : (qm_ln len 2 ((qm_pr st).bind fun q => if k < lv.length then qm_go (pc + 2) (lv.set k (some (vR q.1 q.2.1))) q.2.2 hp kc else none)) = some (pc', lv', st', hp', kc') := h
  obtain ⟨rfl, h1z⟩ := qs_ln h
  obtain ⟨⟨a, b, r⟩, hq, h2z⟩ := qs_bd h1z
  obtain ⟨a, rfl, rfl⟩ := qs_pr hq
  obtain ⟨hk, h3z⟩ := qs_if h2z
  obtain ⟨rfl, rfl, rfl, rfl, rfl⟩ := qs_go h3z
  exact lv_astore hx hb hdg hl.has (by rw [← hl.1]; exact hk) rfl fun ls' h' => kk rfl rfl ls' (hl.set rfl h') (ho.pop.set ho.top)
theorem qs_astore_n (hx : p.tables.exec = Jvm.exec) (hb : c.code = cc) (k : Fin 4) (hdg : decode cc pc = .ok (.astore_n k, len)) (h : qm_1 ro y (.astore_n k) len pc lv st hp kc = some (pc', lv', st', hp', kc')) (hl : qs_lv ad nL ls lv) (ho : qs_ok hp lv st)
    (kk : hp' = hp → kc' = kc → ∀ ls', qs_lv ad nL ls' lv' → qs_ok hp lv' st' → W p l e R s m args below meth c H locs cells slots Q (F0 m pc' ls' (st'.map (tv ad)))) : W p l e R s m args below meth c H locs cells slots Q (F0 m pc ls (st.map (tv ad))) := by
  replace h : (qm_ln len 1 ((qm_pr st).bind fun q => if (k : Nat) < lv.length then qm_go (pc + 1) (lv.set k (some (vR q.1 q.2.1))) q.2.2 hp kc else none)) = some (pc', lv', st', hp', kc') := h
  obtain ⟨rfl, h1z⟩ := qs_ln h
  obtain ⟨⟨a, b, r⟩, hq, h2z⟩ := qs_bd h1z
  obtain ⟨a, rfl, rfl⟩ := qs_pr hq
  obtain ⟨hk, h3z⟩ := qs_if h2z
  obtain ⟨rfl, rfl, rfl, rfl, rfl⟩ := qs_go h3z
  exact lv_astore_n hx hb hdg rfl hl.has (by rw [← hl.1]; exact hk) rfl fun ls' h' => kk rfl rfl ls' (hl.set rfl h') (ho.pop.set ho.top)
theorem qs_iinc (hx : p.tables.exec = Jvm.exec) (hb : c.code = cc) (k : Nat) (n : Int) (hdg : decode cc pc = .ok (.iinc k n, len)) (h : qm_1 ro y (.iinc k n) len pc lv st hp kc = some (pc', lv', st', hp', kc')) (hl : qs_lv ad nL ls lv) (ho : qs_ok hp lv st)
    (kk : hp' = hp → kc' = kc → ∀ ls', qs_lv ad nL ls' lv' → qs_ok hp lv' st' → W p l e R s m args below meth c H locs cells slots Q (F0 m pc' ls' (st'.map (tv ad)))) : W p l e R s m args below meth c H locs cells slots Q (F0 m pc ls (st.map (tv ad))) := by
  replace h : (qm_ln len 3 ((qm_geti lv k).bind fun x => qm_go (pc + 3) (lv.set k (some (vI (x + Int32.ofInt n)))) st hp kc)) = some (pc', lv', st', hp', kc') := h
  obtain ⟨rfl, h1z⟩ := qs_ln h
  obtain ⟨x, hq, h2z⟩ := qs_bd h1z
  obtain ⟨rfl, rfl, rfl, rfl, rfl⟩ := qs_go h2z
  have hv := qs_geti hq
  obtain ⟨j, hj⟩ := List.getElem?_of_mem (qs_al_in (ad := ad) hv)
  have hk : k < nL := by rw [← hl.1]; exact (List.getElem?_eq_some_iff.mp hv).1
  exact lv_iinc hx hb hdg hl.has hj rfl hk rfl fun ls' h' => kk rfl rfl ls' (hl.set rfl h') (ho.set trivial)
theorem qs_iadd (hx : p.tables.exec = Jvm.exec) (hb : c.code = cc)  (hdg : decode cc pc = .ok (.iadd, len)) (h : qm_1 ro y .iadd len pc lv st hp kc = some (pc', lv', st', hp', kc')) (hl : qs_lv ad nL ls lv) (ho : qs_ok hp lv st)
    (kk : hp' = hp → kc' = kc → ∀ ls', qs_lv ad nL ls' lv' → qs_ok hp lv' st' → W p l e R s m args below meth c H locs cells slots Q (F0 m pc' ls' (st'.map (tv ad)))) : W p l e R s m args below meth c H locs cells slots Q (F0 m pc ls (st.map (tv ad))) := by
  replace h : (qm_ln len 1 ((qm_p2 st).bind fun q => qm_go (pc + 1) lv (vI (q.1 + q.2.1) :: q.2.2) hp kc)) = some (pc', lv', st', hp', kc') := h
  obtain ⟨rfl, h1z⟩ := qs_ln h
  obtain ⟨⟨x, z, r⟩, hq, h2z⟩ := qs_bd h1z
  obtain rfl := qs_p2 hq
  obtain ⟨rfl, rfl, rfl, rfl, rfl⟩ := qs_go h2z
  exact lv_iadd hx hb hdg (kk rfl rfl ls hl (ho.pop.pop.psh trivial))
theorem qs_isub (hx : p.tables.exec = Jvm.exec) (hb : c.code = cc)  (hdg : decode cc pc = .ok (.isub, len)) (h : qm_1 ro y .isub len pc lv st hp kc = some (pc', lv', st', hp', kc')) (hl : qs_lv ad nL ls lv) (ho : qs_ok hp lv st)
    (kk : hp' = hp → kc' = kc → ∀ ls', qs_lv ad nL ls' lv' → qs_ok hp lv' st' → W p l e R s m args below meth c H locs cells slots Q (F0 m pc' ls' (st'.map (tv ad)))) : W p l e R s m args below meth c H locs cells slots Q (F0 m pc ls (st.map (tv ad))) := by
  replace h : (qm_ln len 1 ((qm_p2 st).bind fun q => qm_go (pc + 1) lv (vI (q.1 - q.2.1) :: q.2.2) hp kc)) = some (pc', lv', st', hp', kc') := h
  obtain ⟨rfl, h1z⟩ := qs_ln h
  obtain ⟨⟨x, z, r⟩, hq, h2z⟩ := qs_bd h1z
  obtain rfl := qs_p2 hq
  obtain ⟨rfl, rfl, rfl, rfl, rfl⟩ := qs_go h2z
  exact lv_isub hx hb hdg (kk rfl rfl ls hl (ho.pop.pop.psh trivial))
theorem qs_imul (hx : p.tables.exec = Jvm.exec) (hb : c.code = cc)  (hdg : decode cc pc = .ok (.imul, len)) (h : qm_1 ro y .imul len pc lv st hp kc = some (pc', lv', st', hp', kc')) (hl : qs_lv ad nL ls lv) (ho : qs_ok hp lv st)
    (kk : hp' = hp → kc' = kc → ∀ ls', qs_lv ad nL ls' lv' → qs_ok hp lv' st' → W p l e R s m args below meth c H locs cells slots Q (F0 m pc' ls' (st'.map (tv ad)))) : W p l e R s m args below meth c H locs cells slots Q (F0 m pc ls (st.map (tv ad))) := by
  replace h : (qm_ln len 1 ((qm_p2 st).bind fun q => qm_go (pc + 1) lv (vI (q.1 * q.2.1) :: q.2.2) hp kc)) = some (pc', lv', st', hp', kc') := h
  obtain ⟨rfl, h1z⟩ := qs_ln h
  obtain ⟨⟨x, z, r⟩, hq, h2z⟩ := qs_bd h1z
  obtain rfl := qs_p2 hq
  obtain ⟨rfl, rfl, rfl, rfl, rfl⟩ := qs_go h2z
  exact lv_imul hx hb hdg (kk rfl rfl ls hl (ho.pop.pop.psh trivial))
theorem qs_iand (hx : p.tables.exec = Jvm.exec) (hb : c.code = cc)  (hdg : decode cc pc = .ok (.iand, len)) (h : qm_1 ro y .iand len pc lv st hp kc = some (pc', lv', st', hp', kc')) (hl : qs_lv ad nL ls lv) (ho : qs_ok hp lv st)
    (kk : hp' = hp → kc' = kc → ∀ ls', qs_lv ad nL ls' lv' → qs_ok hp lv' st' → W p l e R s m args below meth c H locs cells slots Q (F0 m pc' ls' (st'.map (tv ad)))) : W p l e R s m args below meth c H locs cells slots Q (F0 m pc ls (st.map (tv ad))) := by
  replace h : (qm_ln len 1 ((qm_p2 st).bind fun q => qm_go (pc + 1) lv (vI (q.1 &&& q.2.1) :: q.2.2) hp kc)) = some (pc', lv', st', hp', kc') := h
  obtain ⟨rfl, h1z⟩ := qs_ln h
  obtain ⟨⟨x, z, r⟩, hq, h2z⟩ := qs_bd h1z
  obtain rfl := qs_p2 hq
  obtain ⟨rfl, rfl, rfl, rfl, rfl⟩ := qs_go h2z
  exact lv_iand hx hb hdg (kk rfl rfl ls hl (ho.pop.pop.psh trivial))
theorem qs_ior (hx : p.tables.exec = Jvm.exec) (hb : c.code = cc)  (hdg : decode cc pc = .ok (.ior, len)) (h : qm_1 ro y .ior len pc lv st hp kc = some (pc', lv', st', hp', kc')) (hl : qs_lv ad nL ls lv) (ho : qs_ok hp lv st)
    (kk : hp' = hp → kc' = kc → ∀ ls', qs_lv ad nL ls' lv' → qs_ok hp lv' st' → W p l e R s m args below meth c H locs cells slots Q (F0 m pc' ls' (st'.map (tv ad)))) : W p l e R s m args below meth c H locs cells slots Q (F0 m pc ls (st.map (tv ad))) := by
  replace h : (qm_ln len 1 ((qm_p2 st).bind fun q => qm_go (pc + 1) lv (vI (q.1 ||| q.2.1) :: q.2.2) hp kc)) = some (pc', lv', st', hp', kc') := h
  obtain ⟨rfl, h1z⟩ := qs_ln h
  obtain ⟨⟨x, z, r⟩, hq, h2z⟩ := qs_bd h1z
  obtain rfl := qs_p2 hq
  obtain ⟨rfl, rfl, rfl, rfl, rfl⟩ := qs_go h2z
  exact lv_ior hx hb hdg (kk rfl rfl ls hl (ho.pop.pop.psh trivial))
theorem qs_ishl (hx : p.tables.exec = Jvm.exec) (hb : c.code = cc)  (hdg : decode cc pc = .ok (.ishl, len)) (h : qm_1 ro y .ishl len pc lv st hp kc = some (pc', lv', st', hp', kc')) (hl : qs_lv ad nL ls lv) (ho : qs_ok hp lv st)
    (kk : hp' = hp → kc' = kc → ∀ ls', qs_lv ad nL ls' lv' → qs_ok hp lv' st' → W p l e R s m args below meth c H locs cells slots Q (F0 m pc' ls' (st'.map (tv ad)))) : W p l e R s m args below meth c H locs cells slots Q (F0 m pc ls (st.map (tv ad))) := by
  replace h : (qm_ln len 1 ((qm_p2 st).bind fun q => qm_go (pc + 1) lv (vI (q.1 <<< (q.2.1 &&& 31)) :: q.2.2) hp kc)) = some (pc', lv', st', hp', kc') := h
  obtain ⟨rfl, h1z⟩ := qs_ln h
  obtain ⟨⟨x, z, r⟩, hq, h2z⟩ := qs_bd h1z
  obtain rfl := qs_p2 hq
  obtain ⟨rfl, rfl, rfl, rfl, rfl⟩ := qs_go h2z
  exact lv_ishl hx hb hdg (kk rfl rfl ls hl (ho.pop.pop.psh trivial))
theorem qs_ishr (hx : p.tables.exec = Jvm.exec) (hb : c.code = cc)  (hdg : decode cc pc = .ok (.ishr, len)) (h : qm_1 ro y .ishr len pc lv st hp kc = some (pc', lv', st', hp', kc')) (hl : qs_lv ad nL ls lv) (ho : qs_ok hp lv st)
    (kk : hp' = hp → kc' = kc → ∀ ls', qs_lv ad nL ls' lv' → qs_ok hp lv' st' → W p l e R s m args below meth c H locs cells slots Q (F0 m pc' ls' (st'.map (tv ad)))) : W p l e R s m args below meth c H locs cells slots Q (F0 m pc ls (st.map (tv ad))) := by
  replace h : (qm_ln len 1 ((qm_p2 st).bind fun q => qm_go (pc + 1) lv (vI (q.1 >>> (q.2.1 &&& 31)) :: q.2.2) hp kc)) = some (pc', lv', st', hp', kc') := h
  obtain ⟨rfl, h1z⟩ := qs_ln h
  obtain ⟨⟨x, z, r⟩, hq, h2z⟩ := qs_bd h1z
  obtain rfl := qs_p2 hq
  obtain ⟨rfl, rfl, rfl, rfl, rfl⟩ := qs_go h2z
  exact lv_ishr hx hb hdg (kk rfl rfl ls hl (ho.pop.pop.psh trivial))
theorem qs_idiv (hx : p.tables.exec = Jvm.exec) (hb : c.code = cc)  (hdg : decode cc pc = .ok (.idiv, len)) (h : qm_1 ro y .idiv len pc lv st hp kc = some (pc', lv', st', hp', kc')) (hl : qs_lv ad nL ls lv) (ho : qs_ok hp lv st)
    (kk : hp' = hp → kc' = kc → ∀ ls', qs_lv ad nL ls' lv' → qs_ok hp lv' st' → W p l e R s m args below meth c H locs cells slots Q (F0 m pc' ls' (st'.map (tv ad)))) : W p l e R s m args below meth c H locs cells slots Q (F0 m pc ls (st.map (tv ad))) := by
  replace h : (qm_ln len 1 ((qm_p2 st).bind fun q => if q.2.1 = 0 then none else qm_go (pc + 1) lv (vI (q.1 / q.2.1) :: q.2.2) hp kc)) = some (pc', lv', st', hp', kc') := h
  obtain ⟨rfl, h1z⟩ := qs_ln h
  obtain ⟨⟨x, z, r⟩, hq, h2z⟩ := qs_bd h1z
  obtain rfl := qs_p2 hq
  obtain ⟨hne, h3z⟩ := qs_ifn h2z
  obtain ⟨rfl, rfl, rfl, rfl, rfl⟩ := qs_go h3z
  exact lv_idiv hx hb hdg hne (kk rfl rfl ls hl (ho.pop.pop.psh trivial))
theorem qs_irem (hx : p.tables.exec = Jvm.exec) (hb : c.code = cc)  (hdg : decode cc pc = .ok (.irem, len)) (h : qm_1 ro y .irem len pc lv st hp kc = some (pc', lv', st', hp', kc')) (hl : qs_lv ad nL ls lv) (ho : qs_ok hp lv st)
    (kk : hp' = hp → kc' = kc → ∀ ls', qs_lv ad nL ls' lv' → qs_ok hp lv' st' → W p l e R s m args below meth c H locs cells slots Q (F0 m pc' ls' (st'.map (tv ad)))) : W p l e R s m args below meth c H locs cells slots Q (F0 m pc ls (st.map (tv ad))) := by
  replace h : (qm_ln len 1 ((qm_p2 st).bind fun q => if q.2.1 = 0 then none else qm_go (pc + 1) lv (vI (q.1 - q.1 / q.2.1 * q.2.1) :: q.2.2) hp kc)) = some (pc', lv', st', hp', kc') := h
  obtain ⟨rfl, h1z⟩ := qs_ln h
  obtain ⟨⟨x, z, r⟩, hq, h2z⟩ := qs_bd h1z
  obtain rfl := qs_p2 hq
  obtain ⟨hne, h3z⟩ := qs_ifn h2z
  obtain ⟨rfl, rfl, rfl, rfl, rfl⟩ := qs_go h3z
  exact lv_irem hx hb hdg hne (kk rfl rfl ls hl (ho.pop.pop.psh trivial))
theorem qs_i2l (hx : p.tables.exec = Jvm.exec) (hb : c.code = cc)  (hdg : decode cc pc = .ok (.i2l, len)) (h : qm_1 ro y .i2l len pc lv st hp kc = some (pc', lv', st', hp', kc')) (hl : qs_lv ad nL ls lv) (ho : qs_ok hp lv st)
    (kk : hp' = hp → kc' = kc → ∀ ls', qs_lv ad nL ls' lv' → qs_ok hp lv' st' → W p l e R s m args below meth c H locs cells slots Q (F0 m pc' ls' (st'.map (tv ad)))) : W p l e R s m args below meth c H locs cells slots Q (F0 m pc ls (st.map (tv ad))) := by
  replace h : (qm_ln len 1 ((qm_p1 st).bind fun q => qm_go (pc + 1) lv (vL q.1.toInt64 :: q.2) hp kc)) = some (pc', lv', st', hp', kc') := h
  obtain ⟨rfl, h1z⟩ := qs_ln h
  obtain ⟨⟨x, r⟩, hq, h2z⟩ := qs_bd h1z
  obtain rfl := qs_p1 hq
  obtain ⟨rfl, rfl, rfl, rfl, rfl⟩ := qs_go h2z
  exact lv_i2l hx hb hdg rfl (kk rfl rfl ls hl (ho.pop.psh trivial))
theorem qs_lcmp (hx : p.tables.exec = Jvm.exec) (hb : c.code = cc)  (hdg : decode cc pc = .ok (.lcmp, len)) (h : qm_1 ro y .lcmp len pc lv st hp kc = some (pc', lv', st', hp', kc')) (hl : qs_lv ad nL ls lv) (ho : qs_ok hp lv st)
    (kk : hp' = hp → kc' = kc → ∀ ls', qs_lv ad nL ls' lv' → qs_ok hp lv' st' → W p l e R s m args below meth c H locs cells slots Q (F0 m pc' ls' (st'.map (tv ad)))) : W p l e R s m args below meth c H locs cells slots Q (F0 m pc ls (st.map (tv ad))) := by
  replace h : (qm_ln len 1 ((qm_pll st).bind fun q => qm_go (pc + 1) lv (vI (lg_cmp q.1 q.2.1) :: q.2.2) hp kc)) = some (pc', lv', st', hp', kc') := h
  obtain ⟨rfl, h1z⟩ := qs_ln h
  obtain ⟨⟨x, z, r⟩, hq, h2z⟩ := qs_bd h1z
  obtain rfl := qs_pll hq
  obtain ⟨rfl, rfl, rfl, rfl, rfl⟩ := qs_go h2z
  exact W.lcmp hx hb hdg (kk rfl rfl ls hl (ho.pop.pop.psh trivial))
theorem qs_dup (hx : p.tables.exec = Jvm.exec) (hb : c.code = cc)  (hdg : decode cc pc = .ok (.dup, len)) (h : qm_1 ro y .dup len pc lv st hp kc = some (pc', lv', st', hp', kc')) (hl : qs_lv ad nL ls lv) (ho : qs_ok hp lv st)
    (kk : hp' = hp → kc' = kc → ∀ ls', qs_lv ad nL ls' lv' → qs_ok hp lv' st' → W p l e R s m args below meth c H locs cells slots Q (F0 m pc' ls' (st'.map (tv ad)))) : W p l e R s m args below meth c H locs cells slots Q (F0 m pc ls (st.map (tv ad))) := by
  replace h : (qm_ln len 1 ((qm_c1 st).bind fun q => qm_go (pc + 1) lv (q.1 :: q.1 :: q.2) hp kc)) = some (pc', lv', st', hp', kc') := h
  obtain ⟨rfl, h1z⟩ := qs_ln h
  obtain ⟨⟨v, r⟩, hq, h2z⟩ := qs_bd h1z
  obtain ⟨rfl, g1⟩ := qs_c1 hq
  obtain ⟨rfl, rfl, rfl, rfl, rfl⟩ := qs_go h2z
  exact lv_dup hx hb hdg ((qs_tv_cat ad v).trans g1) (kk rfl rfl ls hl (ho.psh ho.top))
theorem qs_dup2 (hx : p.tables.exec = Jvm.exec) (hb : c.code = cc)  (hdg : decode cc pc = .ok (.dup2, len)) (h : qm_1 ro y .dup2 len pc lv st hp kc = some (pc', lv', st', hp', kc')) (hl : qs_lv ad nL ls lv) (ho : qs_ok hp lv st)
    (kk : hp' = hp → kc' = kc → ∀ ls', qs_lv ad nL ls' lv' → qs_ok hp lv' st' → W p l e R s m args below meth c H locs cells slots Q (F0 m pc' ls' (st'.map (tv ad)))) : W p l e R s m args below meth c H locs cells slots Q (F0 m pc ls (st.map (tv ad))) := by
  replace h : (qm_ln len 1 ((qm_c2 st).bind fun q => qm_go (pc + 1) lv (q.1 :: q.2.1 :: q.1 :: q.2.1 :: q.2.2) hp kc)) = some (pc', lv', st', hp', kc') := h
  obtain ⟨rfl, h1z⟩ := qs_ln h
  obtain ⟨⟨v, w, r⟩, hq, h2z⟩ := qs_bd h1z
  obtain ⟨rfl, g1, g2⟩ := qs_c2 hq
  obtain ⟨rfl, rfl, rfl, rfl, rfl⟩ := qs_go h2z
  exact lv_dup2_11 hx hb hdg ((qs_tv_cat ad v).trans g1) ((qs_tv_cat ad w).trans g2) (kk rfl rfl ls hl ((ho.psh ho.pop.top).psh ho.top))
theorem qs_dup_x1 (hx : p.tables.exec = Jvm.exec) (hb : c.code = cc)  (hdg : decode cc pc = .ok (.dup_x1, len)) (h : qm_1 ro y .dup_x1 len pc lv st hp kc = some (pc', lv', st', hp', kc')) (hl : qs_lv ad nL ls lv) (ho : qs_ok hp lv st)
    (kk : hp' = hp → kc' = kc → ∀ ls', qs_lv ad nL ls' lv' → qs_ok hp lv' st' → W p l e R s m args below meth c H locs cells slots Q (F0 m pc' ls' (st'.map (tv ad)))) : W p l e R s m args below meth c H locs cells slots Q (F0 m pc ls (st.map (tv ad))) := by
  replace h : (qm_ln len 1 ((qm_c2 st).bind fun q => qm_go (pc + 1) lv (q.1 :: q.2.1 :: q.1 :: q.2.2) hp kc)) = some (pc', lv', st', hp', kc') := h
  obtain ⟨rfl, h1z⟩ := qs_ln h
  obtain ⟨⟨v, w, r⟩, hq, h2z⟩ := qs_bd h1z
  obtain ⟨rfl, g1, g2⟩ := qs_c2 hq
  obtain ⟨rfl, rfl, rfl, rfl, rfl⟩ := qs_go h2z
  exact lv_dup_x1 hx hb hdg ((qs_tv_cat ad v).trans g1) ((qs_tv_cat ad w).trans g2) (kk rfl rfl ls hl (((ho.pop.pop.psh ho.top).psh ho.pop.top).psh ho.top))
theorem qs_dup_x2 (hx : p.tables.exec = Jvm.exec) (hb : c.code = cc)  (hdg : decode cc pc = .ok (.dup_x2, len)) (h : qm_1 ro y .dup_x2 len pc lv st hp kc = some (pc', lv', st', hp', kc')) (hl : qs_lv ad nL ls lv) (ho : qs_ok hp lv st)
    (kk : hp' = hp → kc' = kc → ∀ ls', qs_lv ad nL ls' lv' → qs_ok hp lv' st' → W p l e R s m args below meth c H locs cells slots Q (F0 m pc' ls' (st'.map (tv ad)))) : W p l e R s m args below meth c H locs cells slots Q (F0 m pc ls (st.map (tv ad))) := by
  replace h : (qm_ln len 1 ((qm_c3 st).bind fun q => qm_go (pc + 1) lv (q.1 :: q.2.1 :: q.2.2.1 :: q.1 :: q.2.2.2) hp kc)) = some (pc', lv', st', hp', kc') := h
  obtain ⟨rfl, h1z⟩ := qs_ln h
  obtain ⟨⟨v, w, u, r⟩, hq, h2z⟩ := qs_bd h1z
  obtain ⟨rfl, g1, g2, g3⟩ := qs_c3 hq
  obtain ⟨rfl, rfl, rfl, rfl, rfl⟩ := qs_go h2z
  exact lv_dup_x2 hx hb hdg ((qs_tv_cat ad v).trans g1) ((qs_tv_cat ad w).trans g2) ((qs_tv_cat ad u).trans g3) (kk rfl rfl ls hl ((((ho.pop.pop.pop.psh ho.top).psh ho.pop.pop.top).psh ho.pop.top).psh ho.top))
theorem qs_pop (hx : p.tables.exec = Jvm.exec) (hb : c.code = cc)  (hdg : decode cc pc = .ok (.pop, len)) (h : qm_1 ro y .pop len pc lv st hp kc = some (pc', lv', st', hp', kc')) (hl : qs_lv ad nL ls lv) (ho : qs_ok hp lv st)
    (kk : hp' = hp → kc' = kc → ∀ ls', qs_lv ad nL ls' lv' → qs_ok hp lv' st' → W p l e R s m args below meth c H locs cells slots Q (F0 m pc' ls' (st'.map (tv ad)))) : W p l e R s m args below meth c H locs cells slots Q (F0 m pc ls (st.map (tv ad))) := by
  replace h : (qm_ln len 1 ((qm_c1 st).bind fun q => qm_go (pc + 1) lv q.2 hp kc)) = some (pc', lv', st', hp', kc') := h
  obtain ⟨rfl, h1z⟩ := qs_ln h
  obtain ⟨⟨v, r⟩, hq, h2z⟩ := qs_bd h1z
  obtain ⟨rfl, g1⟩ := qs_c1 hq
  obtain ⟨rfl, rfl, rfl, rfl, rfl⟩ := qs_go h2z
  exact lv_pop hx hb hdg ((qs_tv_cat ad v).trans g1) (kk rfl rfl ls hl ho.pop)
theorem qs_ifCond (hx : p.tables.exec = Jvm.exec) (hb : c.code = cc) (k : ClassFile.Cond) (off : Int) (hdg : decode cc pc = .ok (.ifCond k off, len)) (h : qm_1 ro y (.ifCond k off) len pc lv st hp kc = some (pc', lv', st', hp', kc')) (hl : qs_lv ad nL ls lv) (ho : qs_ok hp lv st)
    (kk : hp' = hp → kc' = kc → ∀ ls', qs_lv ad nL ls' lv' → qs_ok hp lv' st' → W p l e R s m args below meth c H locs cells slots Q (F0 m pc' ls' (st'.map (tv ad)))) : W p l e R s m args below meth c H locs cells slots Q (F0 m pc ls (st.map (tv ad))) := by
  replace h : (qm_ln len 3 ((qm_p1 st).bind fun q => (qm_to pc off).bind fun t => qm_go (bif qm_cmp k q.1 0 then t else pc + 3) lv q.2 hp kc)) = some (pc', lv', st', hp', kc') := h
  obtain ⟨rfl, h1z⟩ := qs_ln h
  obtain ⟨⟨x, r⟩, hq, h2z⟩ := qs_bd h1z
  obtain rfl := qs_p1 hq
  obtain ⟨t, ht, h3z⟩ := qs_bd h2z
  obtain ⟨rfl, rfl, rfl, rfl, rfl⟩ := qs_go h3z
  have z0 := kk rfl rfl ls hl ho.pop
  have ht := qs_to ht
  cases k with
  | eq =>
    refine lv_if_eq hx hb hdg ht (fun q => ?_) (fun q => ?_)
    · rw [show (bif qm_cmp .eq x 0 then t else pc + 3) = t from by simp [qm_cmp, q]] at z0
      exact z0
    · rw [show (bif qm_cmp .eq x 0 then t else pc + 3) = pc + 3 from by simp [qm_cmp, q]] at z0
      exact z0
  | ne =>
    refine lv_if_ne hx hb hdg ht (fun q => ?_) (fun q => ?_)
    · rw [show (bif qm_cmp .ne x 0 then t else pc + 3) = t from by simp [qm_cmp, q]] at z0
      exact z0
    · rw [show (bif qm_cmp .ne x 0 then t else pc + 3) = pc + 3 from by simp [qm_cmp, q]] at z0
      exact z0
  | lt =>
    refine lv_if_lt hx hb hdg ht (fun q => ?_) (fun q => ?_)
    · rw [show (bif qm_cmp .lt x 0 then t else pc + 3) = t from by simp [qm_cmp, q]] at z0
      exact z0
    · rw [show (bif qm_cmp .lt x 0 then t else pc + 3) = pc + 3 from by simp [qm_cmp, q]] at z0
      exact z0
  | ge =>
    refine lv_if_ge hx hb hdg ht (fun q => ?_) (fun q => ?_)
    · rw [show (bif qm_cmp .ge x 0 then t else pc + 3) = t from by simp [qm_cmp, q]] at z0
      exact z0
    · rw [show (bif qm_cmp .ge x 0 then t else pc + 3) = pc + 3 from by simp [qm_cmp, q]] at z0
      exact z0
  | gt =>
    refine lv_if_gt hx hb hdg ht (fun q => ?_) (fun q => ?_)
    · rw [show (bif qm_cmp .gt x 0 then t else pc + 3) = t from by simp [qm_cmp, q]] at z0
      exact z0
    · rw [show (bif qm_cmp .gt x 0 then t else pc + 3) = pc + 3 from by simp [qm_cmp, q]] at z0
      exact z0
  | le =>
    refine lv_if_le hx hb hdg ht (fun q => ?_) (fun q => ?_)
    · rw [show (bif qm_cmp .le x 0 then t else pc + 3) = t from by simp [qm_cmp, q]] at z0
      exact z0
    · rw [show (bif qm_cmp .le x 0 then t else pc + 3) = pc + 3 from by simp [qm_cmp, q]] at z0
      exact z0
theorem qs_if_icmp (hx : p.tables.exec = Jvm.exec) (hb : c.code = cc) (k : ClassFile.Cond) (off : Int) (hdg : decode cc pc = .ok (.if_icmp k off, len)) (h : qm_1 ro y (.if_icmp k off) len pc lv st hp kc = some (pc', lv', st', hp', kc')) (hl : qs_lv ad nL ls lv) (ho : qs_ok hp lv st)
    (kk : hp' = hp → kc' = kc → ∀ ls', qs_lv ad nL ls' lv' → qs_ok hp lv' st' → W p l e R s m args below meth c H locs cells slots Q (F0 m pc' ls' (st'.map (tv ad)))) : W p l e R s m args below meth c H locs cells slots Q (F0 m pc ls (st.map (tv ad))) := by
  replace h : (qm_ln len 3 ((qm_p2 st).bind fun q => (qm_to pc off).bind fun t => qm_go (bif qm_cmp k q.1 q.2.1 then t else pc + 3) lv q.2.2 hp kc)) = some (pc', lv', st', hp', kc') := h
  obtain ⟨rfl, h1z⟩ := qs_ln h
  obtain ⟨⟨x, z, r⟩, hq, h2z⟩ := qs_bd h1z
  obtain rfl := qs_p2 hq
  obtain ⟨t, ht, h3z⟩ := qs_bd h2z
  obtain ⟨rfl, rfl, rfl, rfl, rfl⟩ := qs_go h3z
  have z0 := kk rfl rfl ls hl ho.pop.pop
  have ht := qs_to ht
  cases k with
  | eq =>
    refine lv_icmp_eq hx hb hdg ht (fun q => ?_) (fun q => ?_)
    · rw [show (bif qm_cmp .eq x z then t else pc + 3) = t from by simp [qm_cmp, q]] at z0
      exact z0
    · rw [show (bif qm_cmp .eq x z then t else pc + 3) = pc + 3 from by simp [qm_cmp, q]] at z0
      exact z0
  | ne =>
    refine lv_icmp_ne hx hb hdg ht (fun q => ?_) (fun q => ?_)
    · rw [show (bif qm_cmp .ne x z then t else pc + 3) = t from by simp [qm_cmp, q]] at z0
      exact z0
    · rw [show (bif qm_cmp .ne x z then t else pc + 3) = pc + 3 from by simp [qm_cmp, q]] at z0
      exact z0
  | lt =>
    refine lv_icmp_lt hx hb hdg ht (fun q => ?_) (fun q => ?_)
    · rw [show (bif qm_cmp .lt x z then t else pc + 3) = t from by simp [qm_cmp, q]] at z0
      exact z0
    · rw [show (bif qm_cmp .lt x z then t else pc + 3) = pc + 3 from by simp [qm_cmp, q]] at z0
      exact z0
  | ge =>
    refine lv_icmp_ge hx hb hdg ht (fun q => ?_) (fun q => ?_)
    · rw [show (bif qm_cmp .ge x z then t else pc + 3) = t from by simp [qm_cmp, q]] at z0
      exact z0
    · rw [show (bif qm_cmp .ge x z then t else pc + 3) = pc + 3 from by simp [qm_cmp, q]] at z0
      exact z0
  | gt =>
    refine lv_icmp_gt hx hb hdg ht (fun q => ?_) (fun q => ?_)
    · rw [show (bif qm_cmp .gt x z then t else pc + 3) = t from by simp [qm_cmp, q]] at z0
      exact z0
    · rw [show (bif qm_cmp .gt x z then t else pc + 3) = pc + 3 from by simp [qm_cmp, q]] at z0
      exact z0
  | le =>
    refine lv_icmp_le hx hb hdg ht (fun q => ?_) (fun q => ?_)
    · rw [show (bif qm_cmp .le x z then t else pc + 3) = t from by simp [qm_cmp, q]] at z0
      exact z0
    · rw [show (bif qm_cmp .le x z then t else pc + 3) = pc + 3 from by simp [qm_cmp, q]] at z0
      exact z0
theorem qs_goto (hx : p.tables.exec = Jvm.exec) (hb : c.code = cc) (off : Int) (hdg : decode cc pc = .ok (.goto off, len)) (h : qm_1 ro y (.goto off) len pc lv st hp kc = some (pc', lv', st', hp', kc')) (hl : qs_lv ad nL ls lv) (ho : qs_ok hp lv st)
    (kk : hp' = hp → kc' = kc → ∀ ls', qs_lv ad nL ls' lv' → qs_ok hp lv' st' → W p l e R s m args below meth c H locs cells slots Q (F0 m pc' ls' (st'.map (tv ad)))) : W p l e R s m args below meth c H locs cells slots Q (F0 m pc ls (st.map (tv ad))) := by
  replace h : (qm_ln len 3 ((qm_to pc off).bind fun t => qm_go t lv st hp kc)) = some (pc', lv', st', hp', kc') := h
  obtain ⟨rfl, h1z⟩ := qs_ln h
  obtain ⟨t, ht, h2z⟩ := qs_bd h1z
  obtain ⟨rfl, rfl, rfl, rfl, rfl⟩ := qs_go h2z
  exact lv_goto hx hb hdg (qs_to ht) (kk rfl rfl ls hl ho)
theorem qs_tableswitch (hx : p.tables.exec = Jvm.exec) (hb : c.code = cc) (d lo hi : Int) (offs : Array Int) (hdg : decode cc pc = .ok (.tableswitch d lo hi offs, len)) (h : qm_1 ro y (.tableswitch d lo hi offs) len pc lv st hp kc = some (pc', lv', st', hp', kc')) (hl : qs_lv ad nL ls lv) (ho : qs_ok hp lv st)
    (kk : hp' = hp → kc' = kc → ∀ ls', qs_lv ad nL ls' lv' → qs_ok hp lv' st' → W p l e R s m args below meth c H locs cells slots Q (F0 m pc' ls' (st'.map (tv ad)))) : W p l e R s m args below meth c H locs cells slots Q (F0 m pc ls (st.map (tv ad))) := by
  replace h : ((qm_p1 st).bind fun q => if q.1.toInt < lo ∨ hi < q.1.toInt then (qm_to pc d).bind fun t => qm_go t lv q.2 hp kc else (offs[(q.1.toInt - lo).toNat]?).bind fun off => (qm_to pc off).bind fun t => qm_go t lv q.2 hp kc) = some (pc', lv', st', hp', kc') := h
  obtain ⟨⟨x, r⟩, hq, h1z⟩ := qs_bd h
  obtain rfl := qs_p1 hq
  split at h1z
  · rename_i hr
    obtain ⟨t, ht, h2z⟩ := qs_bd h1z
    obtain ⟨rfl, rfl, rfl, rfl, rfl⟩ := qs_go h2z
    exact lv_tableOut hx hb hdg hr (qs_to ht) (kk rfl rfl ls hl ho.pop)
  · rename_i hr
    obtain ⟨off, ho2, h3z⟩ := qs_bd h1z
    obtain ⟨t, ht, h4z⟩ := qs_bd h3z
    obtain ⟨rfl, rfl, rfl, rfl, rfl⟩ := qs_go h4z
    exact lv_tableIn hx hb hdg (fun z => hr (Or.inl z)) (fun z => hr (Or.inr z)) ho2 (qs_to ht) (kk rfl rfl ls hl ho.pop)
theorem qs_lookupswitch (hx : p.tables.exec = Jvm.exec) (hb : c.code = cc) (d : Int) (ps : Array (Int × Int)) (hdg : decode cc pc = .ok (.lookupswitch d ps, len)) (h : qm_1 ro y (.lookupswitch d ps) len pc lv st hp kc = some (pc', lv', st', hp', kc')) (hl : qs_lv ad nL ls lv) (ho : qs_ok hp lv st)
    (kk : hp' = hp → kc' = kc → ∀ ls', qs_lv ad nL ls' lv' → qs_ok hp lv' st' → W p l e R s m args below meth c H locs cells slots Q (F0 m pc' ls' (st'.map (tv ad)))) : W p l e R s m args below meth c H locs cells slots Q (F0 m pc ls (st.map (tv ad))) := by
  replace h : ((qm_p1 st).bind fun q => if (ps.toList.zip (ps.toList.drop 1)).all (fun (a, next) => a.1 < next.1) = true then (qm_to pc (Op.lookupswitch.offset ps.toList d q.1.toInt)).bind fun t => qm_go t lv q.2 hp kc else none) = some (pc', lv', st', hp', kc') := h
  obtain ⟨⟨x, r⟩, hq, h1z⟩ := qs_bd h
  obtain rfl := qs_p1 hq
  obtain ⟨hk, h2z⟩ := qs_if h1z
  obtain ⟨t, ht, h3z⟩ := qs_bd h2z
  obtain ⟨rfl, rfl, rfl, rfl, rfl⟩ := qs_go h3z
  exact lv_lookup hx hb hdg hk rfl (qs_to ht) (kk rfl rfl ls hl ho.pop)
end Q1
