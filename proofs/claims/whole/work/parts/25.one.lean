/-! one instruction of any kind that is no call and no end -/
theorem qs_cost {ro : Nat → Nat × (Nat → Int32)} {y len pc pc' : Nat} {i : Instr} {lv lv' : qm_L} {st st' : List qm_V} {hp hp' : qm_H} {kc kc' : qm_C} (h : qm_1 ro y i len pc lv st hp kc = some (pc', lv', st', hp', kc')) : kc.1 ≤ kc'.1 ∧ kc.2 ≤ kc'.2 := by
  cases i with
  | iconst n =>
    replace h : (qm_ln len 1 (qm_go (pc + 1) lv (vI (Int32.ofInt n) :: st) hp kc)) = some (pc', lv', st', hp', kc') := h
    obtain ⟨_, h⟩ := qs_ln h
    obtain ⟨rfl, rfl, rfl, rfl, rfl⟩ := qs_go h
    exact ⟨Nat.le_refl _, Nat.le_refl _⟩
  | bipush n =>
    replace h : (qm_ln len 2 (qm_go (pc + 2) lv (vI (Int8.ofInt n).toInt32 :: st) hp kc)) = some (pc', lv', st', hp', kc') := h
    obtain ⟨_, h⟩ := qs_ln h
    obtain ⟨rfl, rfl, rfl, rfl, rfl⟩ := qs_go h
    exact ⟨Nat.le_refl _, Nat.le_refl _⟩
  | sipush n =>
    replace h : (qm_ln len 3 (qm_go (pc + 3) lv (vI (Int16.ofInt n).toInt32 :: st) hp kc)) = some (pc', lv', st', hp', kc') := h
    obtain ⟨_, h⟩ := qs_ln h
    obtain ⟨rfl, rfl, rfl, rfl, rfl⟩ := qs_go h
    exact ⟨Nat.le_refl _, Nat.le_refl _⟩
  | ldc ix =>
    replace h : (qm_ln len 2 ((qt_con (qt_own y) ix).bind fun x => qm_go (pc + 2) lv (vI x :: st) hp kc)) = some (pc', lv', st', hp', kc') := h
    obtain ⟨_, h⟩ := qs_ln h
    obtain ⟨_, _, h⟩ := qs_bd h
    obtain ⟨rfl, rfl, rfl, rfl, rfl⟩ := qs_go h
    exact ⟨Nat.le_refl _, Nat.le_refl _⟩
  | lconst n =>
    replace h : (qm_ln len 1 (qm_go (pc + 1) lv (vL (Int64.ofNat n) :: st) hp kc)) = some (pc', lv', st', hp', kc') := h
    obtain ⟨_, h⟩ := qs_ln h
    obtain ⟨rfl, rfl, rfl, rfl, rfl⟩ := qs_go h
    exact ⟨Nat.le_refl _, Nat.le_refl _⟩
  | iload k =>
    replace h : (qm_ln len 2 ((qm_geti lv k).bind fun x => qm_go (pc + 2) lv (vI x :: st) hp kc)) = some (pc', lv', st', hp', kc') := h
    obtain ⟨_, h⟩ := qs_ln h
    obtain ⟨_, _, h⟩ := qs_bd h
    obtain ⟨rfl, rfl, rfl, rfl, rfl⟩ := qs_go h
    exact ⟨Nat.le_refl _, Nat.le_refl _⟩
  | iload_n k =>
    replace h : (qm_ln len 1 ((qm_geti lv k).bind fun x => qm_go (pc + 1) lv (vI x :: st) hp kc)) = some (pc', lv', st', hp', kc') := h
    obtain ⟨_, h⟩ := qs_ln h
    obtain ⟨_, _, h⟩ := qs_bd h
    obtain ⟨rfl, rfl, rfl, rfl, rfl⟩ := qs_go h
    exact ⟨Nat.le_refl _, Nat.le_refl _⟩
  | aload k =>
    replace h : (qm_ln len 2 ((qm_getr lv k).bind fun x => qm_go (pc + 2) lv (vR x.1 x.2 :: st) hp kc)) = some (pc', lv', st', hp', kc') := h
    obtain ⟨_, h⟩ := qs_ln h
    obtain ⟨_, _, h⟩ := qs_bd h
    obtain ⟨rfl, rfl, rfl, rfl, rfl⟩ := qs_go h
    exact ⟨Nat.le_refl _, Nat.le_refl _⟩
  | aload_n k =>
    replace h : (qm_ln len 1 ((qm_getr lv k).bind fun x => qm_go (pc + 1) lv (vR x.1 x.2 :: st) hp kc)) = some (pc', lv', st', hp', kc') := h
    obtain ⟨_, h⟩ := qs_ln h
    obtain ⟨_, _, h⟩ := qs_bd h
    obtain ⟨rfl, rfl, rfl, rfl, rfl⟩ := qs_go h
    exact ⟨Nat.le_refl _, Nat.le_refl _⟩
  | istore k =>
    replace h : (qm_ln len 2 ((qm_p1 st).bind fun q => if k < lv.length then qm_go (pc + 2) (lv.set k (some (vI q.1))) q.2 hp kc else none)) = some (pc', lv', st', hp', kc') := h
    obtain ⟨_, h⟩ := qs_ln h
    obtain ⟨_, _, h⟩ := qs_bd h
    obtain ⟨_, h⟩ := qs_if h
    obtain ⟨rfl, rfl, rfl, rfl, rfl⟩ := qs_go h
    exact ⟨Nat.le_refl _, Nat.le_refl _⟩
  | istore_n k =>
    replace h : (qm_ln len 1 ((qm_p1 st).bind fun q => if (k : Nat) < lv.length then qm_go (pc + 1) (lv.set k (some (vI q.1))) q.2 hp kc else none)) = some (pc', lv', st', hp', kc') := h
    obtain ⟨_, h⟩ := qs_ln h
    obtain ⟨_, _, h⟩ := qs_bd h
    obtain ⟨_, h⟩ := qs_if h
    obtain ⟨rfl, rfl, rfl, rfl, rfl⟩ := qs_go h
    exact ⟨Nat.le_refl _, Nat.le_refl _⟩
  | astore k =>
    replace h : (qm_ln len 2 ((qm_pr st).bind fun q => if k < lv.length then qm_go (pc + 2) (lv.set k (some (vR q.1 q.2.1))) q.2.2 hp kc else none)) = some (pc', lv', st', hp', kc') := h
    obtain ⟨_, h⟩ := qs_ln h
    obtain ⟨_, _, h⟩ := qs_bd h
    obtain ⟨_, h⟩ := qs_if h
    obtain ⟨rfl, rfl, rfl, rfl, rfl⟩ := qs_go h
    exact ⟨Nat.le_refl _, Nat.le_refl _⟩
  | astore_n k =>
    replace h : (qm_ln len 1 ((qm_pr st).bind fun q => if (k : Nat) < lv.length then qm_go (pc + 1) (lv.set k (some (vR q.1 q.2.1))) q.2.2 hp kc else none)) = some (pc', lv', st', hp', kc') := h
    obtain ⟨_, h⟩ := qs_ln h
    obtain ⟨_, _, h⟩ := qs_bd h
    obtain ⟨_, h⟩ := qs_if h
    obtain ⟨rfl, rfl, rfl, rfl, rfl⟩ := qs_go h
    exact ⟨Nat.le_refl _, Nat.le_refl _⟩
  | iinc k n =>
    replace h : (qm_ln len 3 ((qm_geti lv k).bind fun x => qm_go (pc + 3) (lv.set k (some (vI (x + Int32.ofInt n)))) st hp kc)) = some (pc', lv', st', hp', kc') := h
    obtain ⟨_, h⟩ := qs_ln h
    obtain ⟨_, _, h⟩ := qs_bd h
    obtain ⟨rfl, rfl, rfl, rfl, rfl⟩ := qs_go h
    exact ⟨Nat.le_refl _, Nat.le_refl _⟩
  | iadd  =>
    replace h : (qm_ln len 1 ((qm_p2 st).bind fun q => qm_go (pc + 1) lv (vI (q.1 + q.2.1) :: q.2.2) hp kc)) = some (pc', lv', st', hp', kc') := h
    obtain ⟨_, h⟩ := qs_ln h
    obtain ⟨_, _, h⟩ := qs_bd h
    obtain ⟨rfl, rfl, rfl, rfl, rfl⟩ := qs_go h
    exact ⟨Nat.le_refl _, Nat.le_refl _⟩
  | isub  =>
    replace h : (qm_ln len 1 ((qm_p2 st).bind fun q => qm_go (pc + 1) lv (vI (q.1 - q.2.1) :: q.2.2) hp kc)) = some (pc', lv', st', hp', kc') := h
    obtain ⟨_, h⟩ := qs_ln h
    obtain ⟨_, _, h⟩ := qs_bd h
    obtain ⟨rfl, rfl, rfl, rfl, rfl⟩ := qs_go h
    exact ⟨Nat.le_refl _, Nat.le_refl _⟩
  | imul  =>
    replace h : (qm_ln len 1 ((qm_p2 st).bind fun q => qm_go (pc + 1) lv (vI (q.1 * q.2.1) :: q.2.2) hp kc)) = some (pc', lv', st', hp', kc') := h
    obtain ⟨_, h⟩ := qs_ln h
    obtain ⟨_, _, h⟩ := qs_bd h
    obtain ⟨rfl, rfl, rfl, rfl, rfl⟩ := qs_go h
    exact ⟨Nat.le_refl _, Nat.le_refl _⟩
  | idiv  =>
    replace h : (qm_ln len 1 ((qm_p2 st).bind fun q => if q.2.1 = 0 then none else qm_go (pc + 1) lv (vI (q.1 / q.2.1) :: q.2.2) hp kc)) = some (pc', lv', st', hp', kc') := h
    obtain ⟨_, h⟩ := qs_ln h
    obtain ⟨_, _, h⟩ := qs_bd h
    obtain ⟨_, h⟩ := qs_ifn h
    obtain ⟨rfl, rfl, rfl, rfl, rfl⟩ := qs_go h
    exact ⟨Nat.le_refl _, Nat.le_refl _⟩
  | irem  =>
    replace h : (qm_ln len 1 ((qm_p2 st).bind fun q => if q.2.1 = 0 then none else qm_go (pc + 1) lv (vI (q.1 - q.1 / q.2.1 * q.2.1) :: q.2.2) hp kc)) = some (pc', lv', st', hp', kc') := h
    obtain ⟨_, h⟩ := qs_ln h
    obtain ⟨_, _, h⟩ := qs_bd h
    obtain ⟨_, h⟩ := qs_ifn h
    obtain ⟨rfl, rfl, rfl, rfl, rfl⟩ := qs_go h
    exact ⟨Nat.le_refl _, Nat.le_refl _⟩
  | iand  =>
    replace h : (qm_ln len 1 ((qm_p2 st).bind fun q => qm_go (pc + 1) lv (vI (q.1 &&& q.2.1) :: q.2.2) hp kc)) = some (pc', lv', st', hp', kc') := h
    obtain ⟨_, h⟩ := qs_ln h
    obtain ⟨_, _, h⟩ := qs_bd h
    obtain ⟨rfl, rfl, rfl, rfl, rfl⟩ := qs_go h
    exact ⟨Nat.le_refl _, Nat.le_refl _⟩
  | ior  =>
    replace h : (qm_ln len 1 ((qm_p2 st).bind fun q => qm_go (pc + 1) lv (vI (q.1 ||| q.2.1) :: q.2.2) hp kc)) = some (pc', lv', st', hp', kc') := h
    obtain ⟨_, h⟩ := qs_ln h
    obtain ⟨_, _, h⟩ := qs_bd h
    obtain ⟨rfl, rfl, rfl, rfl, rfl⟩ := qs_go h
    exact ⟨Nat.le_refl _, Nat.le_refl _⟩
  | ishl  =>
    replace h : (qm_ln len 1 ((qm_p2 st).bind fun q => qm_go (pc + 1) lv (vI (q.1 <<< (q.2.1 &&& 31)) :: q.2.2) hp kc)) = some (pc', lv', st', hp', kc') := h
    obtain ⟨_, h⟩ := qs_ln h
    obtain ⟨_, _, h⟩ := qs_bd h
    obtain ⟨rfl, rfl, rfl, rfl, rfl⟩ := qs_go h
    exact ⟨Nat.le_refl _, Nat.le_refl _⟩
  | ishr  =>
    replace h : (qm_ln len 1 ((qm_p2 st).bind fun q => qm_go (pc + 1) lv (vI (q.1 >>> (q.2.1 &&& 31)) :: q.2.2) hp kc)) = some (pc', lv', st', hp', kc') := h
    obtain ⟨_, h⟩ := qs_ln h
    obtain ⟨_, _, h⟩ := qs_bd h
    obtain ⟨rfl, rfl, rfl, rfl, rfl⟩ := qs_go h
    exact ⟨Nat.le_refl _, Nat.le_refl _⟩
  | i2l  =>
    replace h : (qm_ln len 1 ((qm_p1 st).bind fun q => qm_go (pc + 1) lv (vL q.1.toInt64 :: q.2) hp kc)) = some (pc', lv', st', hp', kc') := h
    obtain ⟨_, h⟩ := qs_ln h
    obtain ⟨_, _, h⟩ := qs_bd h
    obtain ⟨rfl, rfl, rfl, rfl, rfl⟩ := qs_go h
    exact ⟨Nat.le_refl _, Nat.le_refl _⟩
  | lcmp  =>
    replace h : (qm_ln len 1 ((qm_pll st).bind fun q => qm_go (pc + 1) lv (vI (lg_cmp q.1 q.2.1) :: q.2.2) hp kc)) = some (pc', lv', st', hp', kc') := h
    obtain ⟨_, h⟩ := qs_ln h
    obtain ⟨_, _, h⟩ := qs_bd h
    obtain ⟨rfl, rfl, rfl, rfl, rfl⟩ := qs_go h
    exact ⟨Nat.le_refl _, Nat.le_refl _⟩
  | dup  =>
    replace h : (qm_ln len 1 ((qm_c1 st).bind fun q => qm_go (pc + 1) lv (q.1 :: q.1 :: q.2) hp kc)) = some (pc', lv', st', hp', kc') := h
    obtain ⟨_, h⟩ := qs_ln h
    obtain ⟨_, _, h⟩ := qs_bd h
    obtain ⟨rfl, rfl, rfl, rfl, rfl⟩ := qs_go h
    exact ⟨Nat.le_refl _, Nat.le_refl _⟩
  | dup2  =>
    replace h : (qm_ln len 1 ((qm_c2 st).bind fun q => qm_go (pc + 1) lv (q.1 :: q.2.1 :: q.1 :: q.2.1 :: q.2.2) hp kc)) = some (pc', lv', st', hp', kc') := h
    obtain ⟨_, h⟩ := qs_ln h
    obtain ⟨_, _, h⟩ := qs_bd h
    obtain ⟨rfl, rfl, rfl, rfl, rfl⟩ := qs_go h
    exact ⟨Nat.le_refl _, Nat.le_refl _⟩
  | dup_x1  =>
    replace h : (qm_ln len 1 ((qm_c2 st).bind fun q => qm_go (pc + 1) lv (q.1 :: q.2.1 :: q.1 :: q.2.2) hp kc)) = some (pc', lv', st', hp', kc') := h
    obtain ⟨_, h⟩ := qs_ln h
    obtain ⟨_, _, h⟩ := qs_bd h
    obtain ⟨rfl, rfl, rfl, rfl, rfl⟩ := qs_go h
    exact ⟨Nat.le_refl _, Nat.le_refl _⟩
  | dup_x2  =>
    replace h : (qm_ln len 1 ((qm_c3 st).bind fun q => qm_go (pc + 1) lv (q.1 :: q.2.1 :: q.2.2.1 :: q.1 :: q.2.2.2) hp kc)) = some (pc', lv', st', hp', kc') := h
    obtain ⟨_, h⟩ := qs_ln h
    obtain ⟨_, _, h⟩ := qs_bd h
    obtain ⟨rfl, rfl, rfl, rfl, rfl⟩ := qs_go h
    exact ⟨Nat.le_refl _, Nat.le_refl _⟩
  | pop  =>
    replace h : (qm_ln len 1 ((qm_c1 st).bind fun q => qm_go (pc + 1) lv q.2 hp kc)) = some (pc', lv', st', hp', kc') := h
    obtain ⟨_, h⟩ := qs_ln h
    obtain ⟨_, _, h⟩ := qs_bd h
    obtain ⟨rfl, rfl, rfl, rfl, rfl⟩ := qs_go h
    exact ⟨Nat.le_refl _, Nat.le_refl _⟩
  | ifCond k off =>
    replace h : (qm_ln len 3 ((qm_p1 st).bind fun q => (qm_to pc off).bind fun t => qm_go (bif qm_cmp k q.1 0 then t else pc + 3) lv q.2 hp kc)) = some (pc', lv', st', hp', kc') := h
    obtain ⟨_, h⟩ := qs_ln h
    obtain ⟨_, _, h⟩ := qs_bd h
    obtain ⟨_, _, h⟩ := qs_bd h
    obtain ⟨rfl, rfl, rfl, rfl, rfl⟩ := qs_go h
    exact ⟨Nat.le_refl _, Nat.le_refl _⟩
  | if_icmp k off =>
    replace h : (qm_ln len 3 ((qm_p2 st).bind fun q => (qm_to pc off).bind fun t => qm_go (bif qm_cmp k q.1 q.2.1 then t else pc + 3) lv q.2.2 hp kc)) = some (pc', lv', st', hp', kc') := h
    obtain ⟨_, h⟩ := qs_ln h
    obtain ⟨_, _, h⟩ := qs_bd h
    obtain ⟨_, _, h⟩ := qs_bd h
    obtain ⟨rfl, rfl, rfl, rfl, rfl⟩ := qs_go h
    exact ⟨Nat.le_refl _, Nat.le_refl _⟩
  | goto off =>
    replace h : (qm_ln len 3 ((qm_to pc off).bind fun t => qm_go t lv st hp kc)) = some (pc', lv', st', hp', kc') := h
    obtain ⟨_, h⟩ := qs_ln h
    obtain ⟨_, _, h⟩ := qs_bd h
    obtain ⟨rfl, rfl, rfl, rfl, rfl⟩ := qs_go h
    exact ⟨Nat.le_refl _, Nat.le_refl _⟩
  | tableswitch d lo hi offs =>
    replace h : ((qm_p1 st).bind fun q => if q.1.toInt < lo ∨ hi < q.1.toInt then (qm_to pc d).bind fun t => qm_go t lv q.2 hp kc else (offs[(q.1.toInt - lo).toNat]?).bind fun off => (qm_to pc off).bind fun t => qm_go t lv q.2 hp kc) = some (pc', lv', st', hp', kc') := h
    obtain ⟨_, _, h⟩ := qs_bd h
    split at h
    · obtain ⟨_, _, h⟩ := qs_bd h
      obtain ⟨rfl, rfl, rfl, rfl, rfl⟩ := qs_go h
      exact ⟨Nat.le_refl _, Nat.le_refl _⟩
    · obtain ⟨_, _, h⟩ := qs_bd h
      obtain ⟨_, _, h⟩ := qs_bd h
      obtain ⟨rfl, rfl, rfl, rfl, rfl⟩ := qs_go h
      exact ⟨Nat.le_refl _, Nat.le_refl _⟩
  | lookupswitch d ps =>
    replace h : ((qm_p1 st).bind fun q => if (ps.toList.zip (ps.toList.drop 1)).all (fun (a, next) => a.1 < next.1) = true then (qm_to pc (Op.lookupswitch.offset ps.toList d q.1.toInt)).bind fun t => qm_go t lv q.2 hp kc else none) = some (pc', lv', st', hp', kc') := h
    obtain ⟨_, _, h⟩ := qs_bd h
    obtain ⟨_, h⟩ := qs_if h
    obtain ⟨_, _, h⟩ := qs_bd h
    obtain ⟨rfl, rfl, rfl, rfl, rfl⟩ := qs_go h
    exact ⟨Nat.le_refl _, Nat.le_refl _⟩
  | getfield ix =>
    replace h : (qm_ln len 3 ((qm_pr st).bind fun q => (qt_fld (qt_own y) ix).bind fun f => if qk_tag q.1 = 0 ∧ qk_cls q.1 = f.1 then qm_go (pc + 3) lv (hp.2 q.1 q.2.1 f.2 :: q.2.2) hp kc else none)) = some (pc', lv', st', hp', kc') := h
    obtain ⟨_, h⟩ := qs_ln h
    obtain ⟨_, _, h⟩ := qs_bd h
    obtain ⟨_, _, h⟩ := qs_bd h
    obtain ⟨_, h⟩ := qs_if h
    obtain ⟨rfl, rfl, rfl, rfl, rfl⟩ := qs_go h
    exact ⟨Nat.le_refl _, Nat.le_refl _⟩
  | putfield ix =>
    replace h : (qm_ln len 3 ((qm_pvr st).bind fun q => (qt_fld (qt_own y) ix).bind fun f => if qk_tag q.2.1 = 0 ∧ qk_cls q.2.1 = f.1 ∧ qm_fits y f.1 f.2 q.1 = true ∧ qt_pure y = false then qm_go (pc + 3) lv q.2.2.2 (qm_put hp q.2.1 q.2.2.1 f.2 q.1) kc else none)) = some (pc', lv', st', hp', kc') := h
    obtain ⟨_, h⟩ := qs_ln h
    obtain ⟨_, _, h⟩ := qs_bd h
    obtain ⟨_, _, h⟩ := qs_bd h
    obtain ⟨_, h⟩ := qs_if h
    obtain ⟨rfl, rfl, rfl, rfl, rfl⟩ := qs_go h
    exact ⟨Nat.le_refl _, Nat.le_refl _⟩
  | getstatic ix =>
    replace h : (qm_ln len 3 ((qt_sta (qt_own y) ix).bind fun k => qm_go (pc + 3) lv (vR k 0 :: st) hp kc)) = some (pc', lv', st', hp', kc') := h
    obtain ⟨_, h⟩ := qs_ln h
    obtain ⟨_, _, h⟩ := qs_bd h
    obtain ⟨rfl, rfl, rfl, rfl, rfl⟩ := qs_go h
    exact ⟨Nat.le_refl _, Nat.le_refl _⟩
  | iaload  =>
    replace h : (qm_ln len 1 ((qm_pir st).bind fun q => if qk_tag q.2.1 = 1 then (if qm_inb q.1 (qk_len q.2.1) = true then (qm_toI (hp.2 q.2.1 q.2.2.1 q.1.toNatClampNeg)).bind fun x => qm_go (pc + 1) lv (vI x :: q.2.2.2) hp kc else none) else if qk_tag q.2.1 = 5 then (if qm_inb q.1 (ro q.2.1).1 = true then qm_go (pc + 1) lv (vI ((ro q.2.1).2 q.1.toNatClampNeg) :: q.2.2.2) hp kc else none) else none)) = some (pc', lv', st', hp', kc') := h
    obtain ⟨_, h⟩ := qs_ln h
    obtain ⟨_, _, h⟩ := qs_bd h
    split at h
    · obtain ⟨_, h⟩ := qs_if h
      obtain ⟨_, _, h⟩ := qs_bd h
      obtain ⟨rfl, rfl, rfl, rfl, rfl⟩ := qs_go h
      exact ⟨Nat.le_refl _, Nat.le_refl _⟩
    · obtain ⟨_, h⟩ := qs_if h
      obtain ⟨_, h⟩ := qs_if h
      obtain ⟨rfl, rfl, rfl, rfl, rfl⟩ := qs_go h
      exact ⟨Nat.le_refl _, Nat.le_refl _⟩
  | baload  =>
    replace h : (qm_ln len 1 ((qm_pir st).bind fun q => if qk_tag q.2.1 = 2 ∧ qm_inb q.1 (qk_len q.2.1) = true then (qm_toI (hp.2 q.2.1 q.2.2.1 q.1.toNatClampNeg)).bind fun x => qm_go (pc + 1) lv (vI x :: q.2.2.2) hp kc else none)) = some (pc', lv', st', hp', kc') := h
    obtain ⟨_, h⟩ := qs_ln h
    obtain ⟨_, _, h⟩ := qs_bd h
    obtain ⟨_, h⟩ := qs_if h
    obtain ⟨_, _, h⟩ := qs_bd h
    obtain ⟨rfl, rfl, rfl, rfl, rfl⟩ := qs_go h
    exact ⟨Nat.le_refl _, Nat.le_refl _⟩
  | laload  =>
    replace h : (qm_ln len 1 ((qm_pir st).bind fun q => if qk_tag q.2.1 = 3 ∧ qm_inb q.1 (qk_len q.2.1) = true then qm_go (pc + 1) lv (hp.2 q.2.1 q.2.2.1 q.1.toNatClampNeg :: q.2.2.2) hp kc else none)) = some (pc', lv', st', hp', kc') := h
    obtain ⟨_, h⟩ := qs_ln h
    obtain ⟨_, _, h⟩ := qs_bd h
    obtain ⟨_, h⟩ := qs_if h
    obtain ⟨rfl, rfl, rfl, rfl, rfl⟩ := qs_go h
    exact ⟨Nat.le_refl _, Nat.le_refl _⟩
  | aaload  =>
    replace h : (qm_ln len 1 ((qm_pir st).bind fun q => if qk_tag q.2.1 = 4 ∧ qm_inb q.1 (qk_len q.2.1) = true then qm_go (pc + 1) lv (hp.2 q.2.1 q.2.2.1 q.1.toNatClampNeg :: q.2.2.2) hp kc else none)) = some (pc', lv', st', hp', kc') := h
    obtain ⟨_, h⟩ := qs_ln h
    obtain ⟨_, _, h⟩ := qs_bd h
    obtain ⟨_, h⟩ := qs_if h
    obtain ⟨rfl, rfl, rfl, rfl, rfl⟩ := qs_go h
    exact ⟨Nat.le_refl _, Nat.le_refl _⟩
  | iastore  =>
    replace h : (qm_ln len 1 ((qm_piir st).bind fun q => if qk_tag q.2.2.1 = 1 ∧ qm_inb q.2.1 (qk_len q.2.2.1) = true ∧ qt_pure y = false then qm_go (pc + 1) lv q.2.2.2.2 (qm_put hp q.2.2.1 q.2.2.2.1 q.2.1.toNatClampNeg (vI q.1)) kc else none)) = some (pc', lv', st', hp', kc') := h
    obtain ⟨_, h⟩ := qs_ln h
    obtain ⟨_, _, h⟩ := qs_bd h
    obtain ⟨_, h⟩ := qs_if h
    obtain ⟨rfl, rfl, rfl, rfl, rfl⟩ := qs_go h
    exact ⟨Nat.le_refl _, Nat.le_refl _⟩
  | bastore  =>
    replace h : (qm_ln len 1 ((qm_piir st).bind fun q => if qk_tag q.2.2.1 = 2 ∧ qm_inb q.2.1 (qk_len q.2.2.1) = true ∧ (q.1 = 0 ∨ q.1 = 1) ∧ qt_pure y = false then qm_go (pc + 1) lv q.2.2.2.2 (qm_put hp q.2.2.1 q.2.2.2.1 q.2.1.toNatClampNeg (vI q.1)) kc else none)) = some (pc', lv', st', hp', kc') := h
    obtain ⟨_, h⟩ := qs_ln h
    obtain ⟨_, _, h⟩ := qs_bd h
    obtain ⟨_, h⟩ := qs_if h
    obtain ⟨rfl, rfl, rfl, rfl, rfl⟩ := qs_go h
    exact ⟨Nat.le_refl _, Nat.le_refl _⟩
  | lastore  =>
    replace h : (qm_ln len 1 ((qm_plir st).bind fun q => if qk_tag q.2.2.1 = 3 ∧ qm_inb q.2.1 (qk_len q.2.2.1) = true ∧ qt_pure y = false then qm_go (pc + 1) lv q.2.2.2.2 (qm_put hp q.2.2.1 q.2.2.2.1 q.2.1.toNatClampNeg (vL q.1)) kc else none)) = some (pc', lv', st', hp', kc') := h
    obtain ⟨_, h⟩ := qs_ln h
    obtain ⟨_, _, h⟩ := qs_bd h
    obtain ⟨_, h⟩ := qs_if h
    obtain ⟨rfl, rfl, rfl, rfl, rfl⟩ := qs_go h
    exact ⟨Nat.le_refl _, Nat.le_refl _⟩
  | aastore  =>
    replace h : (qm_ln len 1 ((qm_prir st).bind fun q => if qk_tag q.2.2.2.1 = 4 ∧ qm_inb q.2.2.1 (qk_len q.2.2.2.1) = true ∧ qk_tag q.1 = 0 ∧ qk_cls q.1 = qk_cls q.2.2.2.1 ∧ qt_pure y = false then qm_go (pc + 1) lv q.2.2.2.2.2 (qm_put hp q.2.2.2.1 q.2.2.2.2.1 q.2.2.1.toNatClampNeg (vR q.1 q.2.1)) kc else none)) = some (pc', lv', st', hp', kc') := h
    obtain ⟨_, h⟩ := qs_ln h
    obtain ⟨_, _, h⟩ := qs_bd h
    obtain ⟨_, h⟩ := qs_if h
    obtain ⟨rfl, rfl, rfl, rfl, rfl⟩ := qs_go h
    exact ⟨Nat.le_refl _, Nat.le_refl _⟩
  | arraylength  =>
    replace h : (qm_ln len 1 ((qm_pr st).bind fun q => if qk_tag q.1 = 5 then qm_go (pc + 1) lv (vI (Int32.ofNat (ro q.1).1) :: q.2.2) hp kc else if 1 ≤ qk_tag q.1 ∧ qk_tag q.1 ≤ 4 then qm_go (pc + 1) lv (vI (Int32.ofNat (qk_len q.1)) :: q.2.2) hp kc else none)) = some (pc', lv', st', hp', kc') := h
    obtain ⟨_, h⟩ := qs_ln h
    obtain ⟨_, _, h⟩ := qs_bd h
    split at h
    · obtain ⟨rfl, rfl, rfl, rfl, rfl⟩ := qs_go h
      exact ⟨Nat.le_refl _, Nat.le_refl _⟩
    · obtain ⟨_, h⟩ := qs_if h
      obtain ⟨rfl, rfl, rfl, rfl, rfl⟩ := qs_go h
      exact ⟨Nat.le_refl _, Nat.le_refl _⟩
  | new ix =>
    replace h : (qm_ln len 3 ((qt_site y pc).bind fun k => if 0 < k ∧ qk_tag k = 0 ∧ qt_cix (qt_own y) ix = some (qk_cls k) ∧ qt_pure y = false then qm_go (pc + 3) lv (vR k (hp.1 k) :: st) (qm_new hp k (qk_def k)) (kc.1 + 1, kc.2 + qk_len k) else none)) = some (pc', lv', st', hp', kc') := h
    obtain ⟨_, h⟩ := qs_ln h
    obtain ⟨_, _, h⟩ := qs_bd h
    obtain ⟨_, h⟩ := qs_if h
    obtain ⟨rfl, rfl, rfl, rfl, rfl⟩ := qs_go h
    exact ⟨Nat.le_add_right _ _, Nat.le_add_right _ _⟩
  | newarray ty =>
    replace h : (qm_ln len 2 ((qm_p1 st).bind fun q => (qt_site y pc).bind fun k => if 0 < k ∧ q.1 = Int32.ofNat (qk_len k) ∧ ((ty = .int ∧ qk_tag k = 1) ∨ (ty = .boolean ∧ qk_tag k = 2) ∨ (ty = .long ∧ qk_tag k = 3)) ∧ qt_pure y = false then qm_go (pc + 2) lv (vR k (hp.1 k) :: q.2) (qm_new hp k (qk_def k)) (kc.1 + 1, kc.2 + qk_len k) else none)) = some (pc', lv', st', hp', kc') := h
    obtain ⟨_, h⟩ := qs_ln h
    obtain ⟨_, _, h⟩ := qs_bd h
    obtain ⟨_, _, h⟩ := qs_bd h
    obtain ⟨_, h⟩ := qs_if h
    obtain ⟨rfl, rfl, rfl, rfl, rfl⟩ := qs_go h
    exact ⟨Nat.le_add_right _ _, Nat.le_add_right _ _⟩
  | anewarray ix =>
    replace h : (qm_ln len 3 ((qm_p1 st).bind fun q => (qt_site y pc).bind fun k => if 0 < k ∧ q.1 = Int32.ofNat (qk_len k) ∧ qk_tag k = 4 ∧ qt_cix (qt_own y) ix = some (qk_cls k) ∧ qt_pure y = false then qm_go (pc + 3) lv (vR k (hp.1 k) :: q.2) (qm_new hp k (qk_def k)) (kc.1 + 1, kc.2 + qk_len k) else none)) = some (pc', lv', st', hp', kc') := h
    obtain ⟨_, h⟩ := qs_ln h
    obtain ⟨_, _, h⟩ := qs_bd h
    obtain ⟨_, _, h⟩ := qs_bd h
    obtain ⟨_, h⟩ := qs_if h
    obtain ⟨rfl, rfl, rfl, rfl, rfl⟩ := qs_go h
    exact ⟨Nat.le_add_right _ _, Nat.le_add_right _ _⟩
  | _ => exact absurd h (by simp [qm_1])
section Q4
variable {p : Program} {l : Launch} {e : Env} {R : Room} {s : State} {m : MethodId} {args : Array Value} {below : List Frame} {meth : Method} {c : Code} {H : Heap} {locs : List Loc} {cells slots : Nat} {Q : State → Prop}
variable {pc : Nat} {ls : Array Slot} {D : va_G} {cA : Nat → ClassId} {rc : Nat → Cell} {ra : Nat → Nat} {h0 : qm_H} {ad0 ad : Nat → Nat → Nat} {ro : Nat → Nat × (Nat → Int32)} {y len pc' : Nat} {lv lv' : qm_L} {st st' : List qm_V} {hp hp' : qm_H} {kc kc' : qm_C}
theorem qs_one (X : qs_cx p R s m args meth c D cA rc ra ro y) {i : Instr} (hdg : decode (qt_bytes y) pc = .ok (i, len)) (h : qm_1 ro y i len pc lv st hp kc = some (pc', lv', st', hp', kc')) (hI : qs_I D cA rc ra y h0 ad0 s lv st hp H locs ls ad) (hcells : kc'.1 ≤ R.cells) (hslots : kc'.2 ≤ R.slots)
    (kk : ∀ (H1 : Heap) (locs1 : List Loc) (ls1 : Array Slot) (ad1 : Nat → Nat → Nat), qs_I D cA rc ra y h0 ad0 s lv' st' hp' H1 locs1 ls1 ad1 → W p l e R s m args below meth c H1 locs1 kc'.1 kc'.2 Q (F0 m pc' ls1 (st'.map (tv ad1)))) : W p l e R s m args below meth c H locs kc.1 kc.2 Q (F0 m pc ls (st.map (tv ad))) := by
  have kp : hp' = hp → kc' = kc → ∀ ls', qs_lv ad (qt_maxL y) ls' lv' → qs_ok hp lv' st' → W p l e R s m args below meth c H locs kc.1 kc.2 Q (F0 m pc' ls' (st'.map (tv ad))) := by
    intro e1 e2 ls' hl ho
    subst e1 e2
    exact kk H locs ls' ad ⟨hl, ho, hI.2.2⟩
  cases i with
  | iconst n => exact qs_iconst X.1 X.2.1 n hdg h hI.1 hI.2.1 kp
  | bipush n => exact qs_bipush X.1 X.2.1 n hdg h hI.1 hI.2.1 kp
  | sipush n => exact qs_sipush X.1 X.2.1 n hdg h hI.1 hI.2.1 kp
  | ldc ix => exact qs_ldc X.1 X.2.1 ix X.2.2.2.1 (fun v hv => X.2.2.2.2.1 _ (qo_con hv)) hdg h hI.1 hI.2.1 kp
  | lconst n => exact qs_lconst X.1 X.2.1 n hdg h hI.1 hI.2.1 kp
  | iload k => exact qs_iload X.1 X.2.1 k hdg h hI.1 hI.2.1 kp
  | iload_n k => exact qs_iload_n X.1 X.2.1 k hdg h hI.1 hI.2.1 kp
  | aload k => exact qs_aload X.1 X.2.1 k hdg h hI.1 hI.2.1 kp
  | aload_n k => exact qs_aload_n X.1 X.2.1 k hdg h hI.1 hI.2.1 kp
  | istore k => exact qs_istore X.1 X.2.1 k hdg h hI.1 hI.2.1 kp
  | istore_n k => exact qs_istore_n X.1 X.2.1 k hdg h hI.1 hI.2.1 kp
  | astore k => exact qs_astore X.1 X.2.1 k hdg h hI.1 hI.2.1 kp
  | astore_n k => exact qs_astore_n X.1 X.2.1 k hdg h hI.1 hI.2.1 kp
  | iinc k n => exact qs_iinc X.1 X.2.1 k n hdg h hI.1 hI.2.1 kp
  | iadd  => exact qs_iadd X.1 X.2.1  hdg h hI.1 hI.2.1 kp
  | isub  => exact qs_isub X.1 X.2.1  hdg h hI.1 hI.2.1 kp
  | imul  => exact qs_imul X.1 X.2.1  hdg h hI.1 hI.2.1 kp
  | idiv  => exact qs_idiv X.1 X.2.1  hdg h hI.1 hI.2.1 kp
  | irem  => exact qs_irem X.1 X.2.1  hdg h hI.1 hI.2.1 kp
  | iand  => exact qs_iand X.1 X.2.1  hdg h hI.1 hI.2.1 kp
  | ior  => exact qs_ior X.1 X.2.1  hdg h hI.1 hI.2.1 kp
  | ishl  => exact qs_ishl X.1 X.2.1  hdg h hI.1 hI.2.1 kp
  | ishr  => exact qs_ishr X.1 X.2.1  hdg h hI.1 hI.2.1 kp
  | i2l  => exact qs_i2l X.1 X.2.1  hdg h hI.1 hI.2.1 kp
  | lcmp  => exact qs_lcmp X.1 X.2.1  hdg h hI.1 hI.2.1 kp
  | dup  => exact qs_dup X.1 X.2.1  hdg h hI.1 hI.2.1 kp
  | dup2  => exact qs_dup2 X.1 X.2.1  hdg h hI.1 hI.2.1 kp
  | dup_x1  => exact qs_dup_x1 X.1 X.2.1  hdg h hI.1 hI.2.1 kp
  | dup_x2  => exact qs_dup_x2 X.1 X.2.1  hdg h hI.1 hI.2.1 kp
  | pop  => exact qs_pop X.1 X.2.1  hdg h hI.1 hI.2.1 kp
  | ifCond k off => exact qs_ifCond X.1 X.2.1 k off hdg h hI.1 hI.2.1 kp
  | if_icmp k off => exact qs_if_icmp X.1 X.2.1 k off hdg h hI.1 hI.2.1 kp
  | goto off => exact qs_goto X.1 X.2.1 off hdg h hI.1 hI.2.1 kp
  | tableswitch d lo hi offs => exact qs_tableswitch X.1 X.2.1 d lo hi offs hdg h hI.1 hI.2.1 kp
  | lookupswitch d ps => exact qs_lookupswitch X.1 X.2.1 d ps hdg h hI.1 hI.2.1 kp
  | getfield ix => exact qs_getfield X hdg h hI kk
  | putfield ix => exact qs_putfield X hdg h hI kk
  | getstatic ix => exact qs_getstatic X hdg h hI kk
  | iaload  => exact qs_iaload X hdg h hI kk
  | baload  => exact qs_baload X hdg h hI kk
  | laload  => exact qs_laload X hdg h hI kk
  | aaload  => exact qs_aaload X hdg h hI kk
  | iastore  => exact qs_iastore X hdg h hI kk
  | bastore  => exact qs_bastore X hdg h hI kk
  | lastore  => exact qs_lastore X hdg h hI kk
  | aastore  => exact qs_aastore X hdg h hI kk
  | arraylength  => exact qs_arraylength X hdg h hI kk
  | new ix => exact qs_new X hcells hslots hdg h hI kk
  | newarray ty => exact qs_newarray X hcells hslots hdg h hI kk
  | anewarray ix => exact qs_anewarray X hcells hslots hdg h hI kk
  | _ => exact absurd h (by simp [qm_1])
end Q4
