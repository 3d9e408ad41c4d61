/-! rules for runs over the normal form -/
section QR
variable {ro : Nat → Nat × (Nat → Int32)} {d m pc : Nat} {lv lv' : qm_L} {st st' : List qm_V} {hp hp' : qm_H} {c c' : qm_C} {r : qm_R} {s : qp_S} {x : Int64} {e : Nat → Nat} {b : Bool} {t f pc' : Nat}
theorem qr_cond {α : Type} {b : Bool} {A B : Option α} {z : α} (h : (bif b then A else B) = some z) : (b = true ∧ A = some z) ∨ (b = false ∧ B = some z) := by
  cases b with
  | true => exact Or.inl ⟨rfl, h⟩
  | false => exact Or.inr ⟨rfl, h⟩
theorem qr_t (hb : b = true) (h : qm_stp ro d m pc lv st hp c = some (.inr (.inl (bif b then t else f, lv', st', hp', c')))) (k : qm_E ro d m (t, lv', st', hp', c') r) : qm_E ro d m (pc, lv, st, hp, c) r := by
  subst hb
  exact qm_E_next h k
theorem qr_f (hb : b = false) (h : qm_stp ro d m pc lv st hp c = some (.inr (.inl (bif b then t else f, lv', st', hp', c')))) (k : qm_E ro d m (f, lv', st', hp', c') r) : qm_E ro d m (pc, lv, st, hp, c) r := by
  subst hb
  exact qm_E_next h k
theorem qr_put {k i j : Nat} {v : Int32} (h : qm_stp ro d m pc lv st hp c = some (.inr (.inl (pc', lv', st', qm_put (qp_H s x e) k i j (vI v), c')))) (hd : qk_dt k j = 0) (kk : qm_E ro d m (pc', lv', st', qp_H (qp_up s k i j v) x e, c') r) : qm_E ro d m (pc, lv, st, hp, c) r := by
  rw [← qp_put hd] at kk
  exact qm_E_next h kk
/-- a boolean field takes 0 or 1 -/
theorem qr_putz {ix k i ci j : Nat} {v : Int32} (hv : v = 0 ∨ v = 1) (ht : qt_thr m pc = none) (hcd : qt_code m pc = some (.putfield ix, 3)) (hf : qt_fld (qt_own m) ix = some (ci, j)) (hk : qk_tag (k + 1) = 0) (hc : qk_cls (k + 1) = ci) (h1 : qk_fin ci j = false) (h2 : qk_ft ci j = 1) (hp : qt_pure m = false) (hd : qk_dt (k + 1) j = 0) (kk : qm_E ro d m (pc + 3, lv, st, qp_H (qp_up s (k + 1) i j v) x e, c) r) : qm_E ro d m (pc, lv, vI v :: vR (k + 1) i :: st, qp_H s x e, c) r := by
  rw [← qp_put hd] at kk
  refine qm_E_next ?_ kk
  unfold qm_stp
  rw [ht, hcd]
  dsimp only
  have hfit : qm_fits m ci j (vI v) = true := by
    unfold qm_fits
    rw [h1, h2]
    rcases hv with rfl | rfl <;> rfl
  have e : qm_1 ro m (.putfield ix) 3 pc lv (vI v :: vR (k + 1) i :: st) (qp_H s x e) c = (qt_fld (qt_own m) ix).bind fun f => if qk_tag (k + 1) = 0 ∧ qk_cls (k + 1) = f.1 ∧ qm_fits m f.1 f.2 (vI v) = true ∧ qt_pure m = false then qm_go (pc + 3) lv st (qm_put (qp_H s x e) (k + 1) i f.2 (vI v)) c else none := rfl
  rw [e, hf, Option.bind_some, if_pos ⟨hk, hc, hfit, hp⟩]
  rfl
theorem qr_iaload {k i : Nat} {j v : Int32} (hin : qm_inb j (qk_len (k + 1)) = true) (ht : qt_thr m pc = none) (hcd : qt_code m pc = some (.iaload, 1)) (hk : qk_tag (k + 1) = 1) (hv : hp.2 (k + 1) i j.toNatClampNeg = vI v) (kk : qm_E ro d m (pc + 1, lv, vI v :: st, hp, c) r) : qm_E ro d m (pc, lv, vI j :: vR (k + 1) i :: st, hp, c) r := by
  refine qm_E_next ?_ kk
  unfold qm_stp
  rw [ht, hcd]
  dsimp only
  have e : qm_1 ro m .iaload 1 pc lv (vI j :: vR (k + 1) i :: st) hp c = (if qk_tag (k + 1) = 1 then (if qm_inb j (qk_len (k + 1)) = true then (qm_toI (hp.2 (k + 1) i j.toNatClampNeg)).bind fun x => qm_go (pc + 1) lv (vI x :: st) hp c else none) else if qk_tag (k + 1) = 5 then (if qm_inb j (ro (k + 1)).1 = true then qm_go (pc + 1) lv (vI ((ro (k + 1)).2 j.toNatClampNeg) :: st) hp c else none) else none) := rfl
  rw [e, if_pos hk, if_pos hin, hv]
  rfl
theorem qr_roload {k i : Nat} {j : Int32} (hin : qm_inb j (ro (k + 1)).1 = true) (ht : qt_thr m pc = none) (hcd : qt_code m pc = some (.iaload, 1)) (hk : qk_tag (k + 1) = 5) (kk : qm_E ro d m (pc + 1, lv, vI ((ro (k + 1)).2 j.toNatClampNeg) :: st, hp, c) r) : qm_E ro d m (pc, lv, vI j :: vR (k + 1) i :: st, hp, c) r := by
  refine qm_E_next ?_ kk
  unfold qm_stp
  rw [ht, hcd]
  dsimp only
  have e : qm_1 ro m .iaload 1 pc lv (vI j :: vR (k + 1) i :: st) hp c = (if qk_tag (k + 1) = 1 then (if qm_inb j (qk_len (k + 1)) = true then (qm_toI (hp.2 (k + 1) i j.toNatClampNeg)).bind fun x => qm_go (pc + 1) lv (vI x :: st) hp c else none) else if qk_tag (k + 1) = 5 then (if qm_inb j (ro (k + 1)).1 = true then qm_go (pc + 1) lv (vI ((ro (k + 1)).2 j.toNatClampNeg) :: st) hp c else none) else none) := rfl
  rw [e, if_neg (by rw [hk]; decide), if_pos hk, if_pos hin]
  rfl
theorem qr_baload {k i : Nat} {j v : Int32} (hin : qm_inb j (qk_len (k + 1)) = true) (ht : qt_thr m pc = none) (hcd : qt_code m pc = some (.baload, 1)) (hk : qk_tag (k + 1) = 2) (hv : hp.2 (k + 1) i j.toNatClampNeg = vI v) (kk : qm_E ro d m (pc + 1, lv, vI v :: st, hp, c) r) : qm_E ro d m (pc, lv, vI j :: vR (k + 1) i :: st, hp, c) r := by
  refine qm_E_next ?_ kk
  unfold qm_stp
  rw [ht, hcd]
  dsimp only
  have e : qm_1 ro m .baload 1 pc lv (vI j :: vR (k + 1) i :: st) hp c = (if qk_tag (k + 1) = 2 ∧ qm_inb j (qk_len (k + 1)) = true then (qm_toI (hp.2 (k + 1) i j.toNatClampNeg)).bind fun x => qm_go (pc + 1) lv (vI x :: st) hp c else none) := rfl
  rw [e, if_pos ⟨hk, hin⟩, hv]
  rfl
theorem qr_aaload {k i : Nat} {j : Int32} (hin : qm_inb j (qk_len (k + 1)) = true) (ht : qt_thr m pc = none) (hcd : qt_code m pc = some (.aaload, 1)) (hk : qk_tag (k + 1) = 4) (kk : qm_E ro d m (pc + 1, lv, hp.2 (k + 1) i j.toNatClampNeg :: st, hp, c) r) : qm_E ro d m (pc, lv, vI j :: vR (k + 1) i :: st, hp, c) r := by
  refine qm_E_next ?_ kk
  unfold qm_stp
  rw [ht, hcd]
  dsimp only
  have e : qm_1 ro m .aaload 1 pc lv (vI j :: vR (k + 1) i :: st) hp c = (if qk_tag (k + 1) = 4 ∧ qm_inb j (qk_len (k + 1)) = true then qm_go (pc + 1) lv (hp.2 (k + 1) i j.toNatClampNeg :: st) hp c else none) := rfl
  rw [e, if_pos ⟨hk, hin⟩]
  rfl
theorem qr_iastore {k i : Nat} {j v : Int32} (hin : qm_inb j (qk_len (k + 1)) = true) (ht : qt_thr m pc = none) (hcd : qt_code m pc = some (.iastore, 1)) (hk : qk_tag (k + 1) = 1) (hp : qt_pure m = false) (hd : qk_dt (k + 1) j.toNatClampNeg = 0) (kk : qm_E ro d m (pc + 1, lv, st, qp_H (qp_up s (k + 1) i j.toNatClampNeg v) x e, c) r) : qm_E ro d m (pc, lv, vI v :: vI j :: vR (k + 1) i :: st, qp_H s x e, c) r := by
  rw [← qp_put hd] at kk
  refine qm_E_next ?_ kk
  unfold qm_stp
  rw [ht, hcd]
  dsimp only
  have e : qm_1 ro m .iastore 1 pc lv (vI v :: vI j :: vR (k + 1) i :: st) (qp_H s x e) c = (if qk_tag (k + 1) = 1 ∧ qm_inb j (qk_len (k + 1)) = true ∧ qt_pure m = false then qm_go (pc + 1) lv st (qm_put (qp_H s x e) (k + 1) i j.toNatClampNeg (vI v)) c else none) := rfl
  rw [e, if_pos ⟨hk, hin, hp⟩]
  rfl
theorem qr_bastore {k i : Nat} {j v : Int32} (hin : qm_inb j (qk_len (k + 1)) = true) (hv : v = 0 ∨ v = 1) (ht : qt_thr m pc = none) (hcd : qt_code m pc = some (.bastore, 1)) (hk : qk_tag (k + 1) = 2) (hp : qt_pure m = false) (hd : qk_dt (k + 1) j.toNatClampNeg = 0) (kk : qm_E ro d m (pc + 1, lv, st, qp_H (qp_up s (k + 1) i j.toNatClampNeg v) x e, c) r) : qm_E ro d m (pc, lv, vI v :: vI j :: vR (k + 1) i :: st, qp_H s x e, c) r := by
  rw [← qp_put hd] at kk
  refine qm_E_next ?_ kk
  unfold qm_stp
  rw [ht, hcd]
  dsimp only
  have e : qm_1 ro m .bastore 1 pc lv (vI v :: vI j :: vR (k + 1) i :: st) (qp_H s x e) c = (if qk_tag (k + 1) = 2 ∧ qm_inb j (qk_len (k + 1)) = true ∧ (v = 0 ∨ v = 1) ∧ qt_pure m = false then qm_go (pc + 1) lv st (qm_put (qp_H s x e) (k + 1) i j.toNatClampNeg (vI v)) c else none) := rfl
  rw [e, if_pos ⟨hk, hin, hv, hp⟩]
  rfl
theorem qr_idiv {a b : Int32} (hb : ¬ b = 0) (ht : qt_thr m pc = none) (hcd : qt_code m pc = some (.idiv, 1)) (kk : qm_E ro d m (pc + 1, lv, vI (a / b) :: st, hp, c) r) : qm_E ro d m (pc, lv, vI b :: vI a :: st, hp, c) r := by
  refine qm_E_next ?_ kk
  unfold qm_stp
  rw [ht, hcd]
  dsimp only
  have e : qm_1 ro m .idiv 1 pc lv (vI b :: vI a :: st) hp c = (if b = 0 then none else qm_go (pc + 1) lv (vI (a / b) :: st) hp c) := rfl
  rw [e, if_neg hb]
  rfl
theorem qr_irem {a b : Int32} (hb : ¬ b = 0) (ht : qt_thr m pc = none) (hcd : qt_code m pc = some (.irem, 1)) (kk : qm_E ro d m (pc + 1, lv, vI (a - a / b * b) :: st, hp, c) r) : qm_E ro d m (pc, lv, vI b :: vI a :: st, hp, c) r := by
  refine qm_E_next ?_ kk
  unfold qm_stp
  rw [ht, hcd]
  dsimp only
  have e : qm_1 ro m .irem 1 pc lv (vI b :: vI a :: st) hp c = (if b = 0 then none else qm_go (pc + 1) lv (vI (a - a / b * b) :: st) hp c) := rfl
  rw [e, if_neg hb]
  rfl
theorem qr_iret {v : Int32} (hr : qt_ret m = 1 ∨ (qt_ret m = 2 ∧ (v = 0 ∨ v = 1))) (ht : qt_thr m pc = none) (hcd : qt_code m pc = some (.ireturn, 1)) : qm_E ro d m (pc, lv, [vI v], hp, c) (.inl (some (vI v)), hp, c) := by
  refine qm_E_done ?_
  unfold qm_stp
  rw [ht, hcd]
  dsimp only
  rw [if_pos rfl, if_pos hr]
theorem qr_ret (hr : qt_ret m = 0) (ht : qt_thr m pc = none) (hcd : qt_code m pc = some (.return_, 1)) : qm_E ro d m (pc, lv, [], hp, c) (.inl none, hp, c) := by
  refine qm_E_done ?_
  unfold qm_stp
  rw [ht, hcd]
  dsimp only
  rw [if_pos rfl, if_pos hr]
theorem qr_thr {k : Nat} (ht : qt_thr m pc = some k) (hd : 6 ≤ d) (hp : qt_pure m = true) (hk : 70 ≤ k) (hl : qk_len k = 0) : qm_E ro d m (pc, lv, [], qp_H s x e, (0, 0)) (.inr k, qp_H s x (qp_bump e k), (1, 6)) := by
  refine qm_E_done ?_
  unfold qm_stp
  rw [ht]
  dsimp only
  rw [if_pos ⟨hd, rfl, rfl, hp⟩, qp_new hk hl]
/-- Math.max, Math.min -/
theorem qr_max {ix : Nat} {a b : Int32} (ht : qt_thr m pc = none) (hcd : qt_code m pc = some (.invokestatic ix, 3)) (hm : qt_met (qt_own m) ix = none) (hs : qt_spc (qt_own m) ix = 2) (hc : (st.map qm_cat).sum ≤ 8) (k : qm_E ro (d + 1) m (pc + 3, lv, vI (qm_max a b) :: st, hp, c) r) : qm_E ro (d + 1) m (pc, lv, vI b :: vI a :: st, hp, c) r := by
  refine qm_E_next (y := (pc + 3, lv, vI (qm_max a b) :: st, hp, c)) ?_ k
  unfold qm_stp
  rw [ht, hcd]
  dsimp only
  rw [if_pos rfl]
  unfold qm_call
  rw [hm, hs]
  dsimp only
  unfold qm_spc
  rw [if_pos (by omega)]
  show qm_next (if (st.map qm_cat).sum ≤ 8 then qm_go (pc + 3) lv (vI (qm_max a b) :: st) hp c else none) = _
  rw [if_pos hc]
  rfl
theorem qr_min {ix : Nat} {a b : Int32} (ht : qt_thr m pc = none) (hcd : qt_code m pc = some (.invokestatic ix, 3)) (hm : qt_met (qt_own m) ix = none) (hs : qt_spc (qt_own m) ix = 3) (hc : (st.map qm_cat).sum ≤ 8) (k : qm_E ro (d + 1) m (pc + 3, lv, vI (qm_min a b) :: st, hp, c) r) : qm_E ro (d + 1) m (pc, lv, vI b :: vI a :: st, hp, c) r := by
  refine qm_E_next (y := (pc + 3, lv, vI (qm_min a b) :: st, hp, c)) ?_ k
  unfold qm_stp
  rw [ht, hcd]
  dsimp only
  rw [if_pos rfl]
  unfold qm_call
  rw [hm, hs]
  dsimp only
  unfold qm_spc
  rw [if_pos (by omega)]
  show qm_next (if (st.map qm_cat).sum ≤ 8 then qm_go (pc + 3) lv (vI (qm_min a b) :: st) hp c else none) = _
  rw [if_pos hc]
  rfl
theorem qr_lastore {v : Int64} {j : Int32} (hj : j = 0) (ht : qt_thr m pc = none) (hcd : qt_code m pc = some (.lastore, 1)) (hp : qt_pure m = false) (kk : qm_E ro d m (pc + 1, lv, st, qp_H s v e, c) r) : qm_E ro d m (pc, lv, vL v :: vI j :: vR 61 0 :: st, qp_H s x e, c) r := by
  subst hj
  rw [← qp_putL (x := x)] at kk
  refine qm_E_next ?_ kk
  unfold qm_stp
  rw [ht, hcd]
  dsimp only
  have e : qm_1 ro m .lastore 1 pc lv (vL v :: vI 0 :: vR 61 0 :: st) (qp_H s x e) c = (if qk_tag 61 = 3 ∧ qm_inb 0 (qk_len 61) = true ∧ qt_pure m = false then qm_go (pc + 1) lv st (qm_put (qp_H s x e) 61 0 (0 : Int32).toNatClampNeg (vL v)) c else none) := rfl
  rw [e, if_pos ⟨rfl, by decide, hp⟩]
  rfl
/-- a switch at a number that is known -/
theorem qr_tsv {a v : Int32} {y : qm_S} (ha : decide (a = v) = true) (hs : qm_stp ro d m pc lv (vI v :: st) hp c = some (.inr (.inl y))) (k : qm_E ro d m y r) : qm_E ro d m (pc, lv, vI a :: st, hp, c) r := by
  have ha : a = v := of_decide_eq_true ha
  subst ha
  exact qm_E_next hs k
theorem qr_tsd {a : Int32} {df lo hi : Int} {offs : Array Int} {len : Nat} (ha : decide (a.toInt < lo ∨ hi < a.toInt) = true) (ht : qt_thr m pc = none) (hcd : qt_code m pc = some (.tableswitch df lo hi offs, len)) (hto : qm_to pc df = some t) (k : qm_E ro d m (t, lv, st, hp, c) r) : qm_E ro d m (pc, lv, vI a :: st, hp, c) r := by
  refine qm_E_next ?_ k
  unfold qm_stp
  rw [ht, hcd]
  dsimp only
  have e : qm_1 ro m (.tableswitch df lo hi offs) len pc lv (vI a :: st) hp c = (if a.toInt < lo ∨ hi < a.toInt then (qm_to pc df).bind fun t => qm_go t lv st hp c else (offs[(a.toInt - lo).toNat]?).bind fun off => (qm_to pc off).bind fun t => qm_go t lv st hp c) := rfl
  rw [e, if_pos (of_decide_eq_true ha), hto]
  rfl
theorem qr_ne {a v : Int32} {z : Int} (h : decide (a = v) = false) (hz : v.toInt = z) : ¬ z = a.toInt := by
  intro q
  refine of_decide_eq_false h ?_
  rw [← hz] at q
  exact (Int32.toInt_inj.mp q).symm
theorem qr_lsd {a : Int32} {df o : Int} {ps : Array (Int × Int)} {len : Nat} (ho : Op.lookupswitch.offset ps.toList df a.toInt = o) (hso : (ps.toList.zip (ps.toList.drop 1)).all (fun (a, next) => a.1 < next.1) = true) (ht : qt_thr m pc = none) (hcd : qt_code m pc = some (.lookupswitch df ps, len)) (hto : qm_to pc o = some t) (k : qm_E ro d m (t, lv, st, hp, c) r) : qm_E ro d m (pc, lv, vI a :: st, hp, c) r := by
  refine qm_E_next ?_ k
  unfold qm_stp
  rw [ht, hcd]
  dsimp only
  have e : qm_1 ro m (.lookupswitch df ps) len pc lv (vI a :: st) hp c = (if (ps.toList.zip (ps.toList.drop 1)).all (fun (a, next) => a.1 < next.1) = true then (qm_to pc (Op.lookupswitch.offset ps.toList df a.toInt)).bind fun t => qm_go t lv st hp c else none) := rfl
  rw [e, if_pos hso, ho, hto]
  rfl
end QR
theorem qr_inb {α : Type} {P : Prop} [Decidable P] {A : Option α} {z : α} (h : (if P then A else none) = some z) : P ∧ A = some z := qs_if h
theorem qr_nz {α : Type} {P : Prop} [Decidable P] {A : Option α} {z : α} (h : (if P then none else A) = some z) : ¬ P ∧ A = some z := qs_ifn h
def qf_v (v : Int32) (s : qp_S) (x : Int64) (e : Nat → Nat) : qm_R := (.inl (some (vI v)), qp_H s x e, (0, 0))
def qf_u (s : qp_S) (x : Int64) (e : Nat → Nat) : qm_R := (.inl none, qp_H s x e, (0, 0))
def qf_k (k : Nat) (s : qp_S) (x : Int64) (e : Nat → Nat) : qm_R := (.inr k, qp_H s x (qp_bump e k), (1, 6))
