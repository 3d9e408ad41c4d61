/-! THE SMALL MACHINE: a deterministic machine over named cells (kind, number), into which every method of the claim is read; 'soundness' (parts 20 ..) ties it to the walk W once and for all; all that is proved of methods afterwards is proved of this machine. -/
abbrev qm_V : Type := Int32 ⊕ ((Nat × Nat) ⊕ Int64)
/-- how many cells of each kind there are; what they hold -/
abbrev qm_H : Type := (Nat → Nat) × (Nat → Nat → Nat → qm_V)
abbrev qm_L : Type := List (Option qm_V)
/-- cells made, slots made -/
abbrev qm_C : Type := Nat × Nat
/-- pc, locals, stack, heap, cost -/
abbrev qm_S : Type := Nat × qm_L × List qm_V × qm_H × qm_C
/-- a value, or the kind of what was thrown -/
abbrev qm_O : Type := Option qm_V ⊕ Nat
abbrev qm_R : Type := qm_O × qm_H × qm_C
abbrev vI (x : Int32) : qm_V := .inl x
abbrev vR (k i : Nat) : qm_V := .inr (.inl (k, i))
abbrev vL (x : Int64) : qm_V := .inr (.inr x)
def qm_cat : qm_V → Nat
  | .inr (.inr _) => 2
  | _ => 1
def qm_put (h : qm_H) (k i j : Nat) (v : qm_V) : qm_H := (h.1, fun a b c => if a = k ∧ b = i ∧ c = j then v else h.2 a b c)
def qm_new (h : qm_H) (k : Nat) (f : Nat → qm_V) : qm_H := (fun a => if a = k then h.1 k + 1 else h.1 a, fun a b c => if a = k ∧ b = h.1 k ∧ c < qk_len k then f c else h.2 a b c)
def qm_inb (x : Int32) (n : Nat) : Bool := decide (0 ≤ x.toInt) && decide (x.toInt < (n : Int))
def qm_cmp (k : ClassFile.Cond) (x y : Int32) : Bool := match k with
  | .eq => decide (x = y)
  | .ne => decide (¬ x = y)
  | .lt => decide (x < y)
  | .ge => decide (y ≤ x)
  | .gt => decide (y < x)
  | .le => decide (x ≤ y)
/-- what the stack holds on top -/
def qm_p1 : List qm_V → Option (Int32 × List qm_V)
  | .inl x :: r => some (x, r)
  | _ => none
def qm_p2 : List qm_V → Option (Int32 × Int32 × List qm_V)
  | .inl y :: .inl x :: r => some (x, y, r)
  | _ => none
def qm_pr : List qm_V → Option (Nat × Nat × List qm_V)
  | .inr (.inl (k + 1, i)) :: r => some (k + 1, i, r)
  | _ => none
def qm_pir : List qm_V → Option (Int32 × Nat × Nat × List qm_V)
  | .inl j :: .inr (.inl (k + 1, i)) :: r => some (j, k + 1, i, r)
  | _ => none
def qm_piir : List qm_V → Option (Int32 × Int32 × Nat × Nat × List qm_V)
  | .inl x :: .inl j :: .inr (.inl (k + 1, i)) :: r => some (x, j, k + 1, i, r)
  | _ => none
def qm_plir : List qm_V → Option (Int64 × Int32 × Nat × Nat × List qm_V)
  | .inr (.inr x) :: .inl j :: .inr (.inl (k + 1, i)) :: r => some (x, j, k + 1, i, r)
  | _ => none
def qm_prir : List qm_V → Option (Nat × Nat × Int32 × Nat × Nat × List qm_V)
  | .inr (.inl (kv + 1, iv)) :: .inl j :: .inr (.inl (k + 1, i)) :: r => some (kv + 1, iv, j, k + 1, i, r)
  | _ => none
def qm_pvr : List qm_V → Option (qm_V × Nat × Nat × List qm_V)
  | v :: .inr (.inl (k + 1, i)) :: r => some (v, k + 1, i, r)
  | _ => none
def qm_pll : List qm_V → Option (Int64 × Int64 × List qm_V)
  | .inr (.inr y) :: .inr (.inr x) :: r => some (x, y, r)
  | _ => none
def qm_get (lv : qm_L) (k : Nat) : Option qm_V := match lv[k]? with
  | some (some v) => some v
  | _ => none
def qm_geti (lv : qm_L) (k : Nat) : Option Int32 := match lv[k]? with
  | some (some (.inl x)) => some x
  | _ => none
def qm_getr (lv : qm_L) (k : Nat) : Option (Nat × Nat) := match lv[k]? with
  | some (some (.inr (.inl (k + 1, i)))) => some (k + 1, i)
  | _ => none
/-- a jump -/
def qm_to (pc : Nat) (off : Int) : Option Nat := match (pc : Int) + off with
  | .ofNat t => some t
  | _ => none
def qm_toI (v : qm_V) : Option Int32 := match v with
  | .inl x => some x
  | _ => none
/-- what a new cell holds -/
def qk_def (k j : Nat) : qm_V := match qk_dt k j with
  | 0 => vI 0
  | 1 => vR 0 0
  | _ => vL 0
def qm_go (pc : Nat) (lv : qm_L) (st : List qm_V) (h : qm_H) (c : qm_C) : Option qm_S := some (pc, lv, st, h, c)
/-- a field of kind ci, place j, takes v in method m -/
def qm_fits (m ci j : Nat) (v : qm_V) : Bool := (!qk_fin ci j || (qt_ctor m && qt_own m == ci)) && (match v, qk_ft ci j with
  | .inl _, 0 => true
  | .inl x, 1 => decide (x = 0) || decide (x = 1)
  | .inr (.inl (_ + 1, _)), 2 => true
  | _, _ => false)
def qm_c1 : List qm_V → Option (qm_V × List qm_V)
  | v :: r => if qm_cat v = 1 then some (v, r) else none
  | _ => none
def qm_c2 : List qm_V → Option (qm_V × qm_V × List qm_V)
  | v :: w :: r => if qm_cat v = 1 ∧ qm_cat w = 1 then some (v, w, r) else none
  | _ => none
def qm_c3 : List qm_V → Option (qm_V × qm_V × qm_V × List qm_V)
  | v :: w :: u :: r => if qm_cat v = 1 ∧ qm_cat w = 1 ∧ qm_cat u = 1 then some (v, w, u, r) else none
  | _ => none
def qm_ln (len n : Nat) (x : Option qm_S) : Option qm_S := if len = n then x else none
/-- one instruction that is no call and no end -/
def qm_1 (ro : Nat → Nat × (Nat → Int32)) (m : Nat) (i : Instr) (len pc : Nat) (lv : qm_L) (st : List qm_V) (h : qm_H) (c : qm_C) : Option qm_S := match i with
  | .iconst n => qm_ln len 1 (qm_go (pc + 1) lv (vI (Int32.ofInt n) :: st) h c)
  | .bipush n => qm_ln len 2 (qm_go (pc + 2) lv (vI (Int8.ofInt n).toInt32 :: st) h c)
  | .sipush n => qm_ln len 3 (qm_go (pc + 3) lv (vI (Int16.ofInt n).toInt32 :: st) h c)
  | .ldc ix => qm_ln len 2 ((qt_con (qt_own m) ix).bind fun x => qm_go (pc + 2) lv (vI x :: st) h c)
  | .lconst n => qm_ln len 1 (qm_go (pc + 1) lv (vL (Int64.ofNat n) :: st) h c)
  | .iload k => qm_ln len 2 ((qm_geti lv k).bind fun x => qm_go (pc + 2) lv (vI x :: st) h c)
  | .iload_n k => qm_ln len 1 ((qm_geti lv k).bind fun x => qm_go (pc + 1) lv (vI x :: st) h c)
  | .aload k => qm_ln len 2 ((qm_getr lv k).bind fun x => qm_go (pc + 2) lv (vR x.1 x.2 :: st) h c)
  | .aload_n k => qm_ln len 1 ((qm_getr lv k).bind fun x => qm_go (pc + 1) lv (vR x.1 x.2 :: st) h c)
  | .istore k => qm_ln len 2 ((qm_p1 st).bind fun q => if k < lv.length then qm_go (pc + 2) (lv.set k (some (vI q.1))) q.2 h c else none)
  | .istore_n k => qm_ln len 1 ((qm_p1 st).bind fun q => if (k : Nat) < lv.length then qm_go (pc + 1) (lv.set k (some (vI q.1))) q.2 h c else none)
  | .astore k => qm_ln len 2 ((qm_pr st).bind fun q => if k < lv.length then qm_go (pc + 2) (lv.set k (some (vR q.1 q.2.1))) q.2.2 h c else none)
  | .astore_n k => qm_ln len 1 ((qm_pr st).bind fun q => if (k : Nat) < lv.length then qm_go (pc + 1) (lv.set k (some (vR q.1 q.2.1))) q.2.2 h c else none)
  | .iinc k n => qm_ln len 3 ((qm_geti lv k).bind fun x => qm_go (pc + 3) (lv.set k (some (vI (x + Int32.ofInt n)))) st h c)
  | .iadd => qm_ln len 1 ((qm_p2 st).bind fun q => qm_go (pc + 1) lv (vI (q.1 + q.2.1) :: q.2.2) h c)
  | .isub => qm_ln len 1 ((qm_p2 st).bind fun q => qm_go (pc + 1) lv (vI (q.1 - q.2.1) :: q.2.2) h c)
  | .imul => qm_ln len 1 ((qm_p2 st).bind fun q => qm_go (pc + 1) lv (vI (q.1 * q.2.1) :: q.2.2) h c)
  | .idiv => qm_ln len 1 ((qm_p2 st).bind fun q => if q.2.1 = 0 then none else qm_go (pc + 1) lv (vI (q.1 / q.2.1) :: q.2.2) h c)
  | .irem => qm_ln len 1 ((qm_p2 st).bind fun q => if q.2.1 = 0 then none else qm_go (pc + 1) lv (vI (q.1 - q.1 / q.2.1 * q.2.1) :: q.2.2) h c)
  | .iand => qm_ln len 1 ((qm_p2 st).bind fun q => qm_go (pc + 1) lv (vI (q.1 &&& q.2.1) :: q.2.2) h c)
  | .ior => qm_ln len 1 ((qm_p2 st).bind fun q => qm_go (pc + 1) lv (vI (q.1 ||| q.2.1) :: q.2.2) h c)
  | .ishl => qm_ln len 1 ((qm_p2 st).bind fun q => qm_go (pc + 1) lv (vI (q.1 <<< (q.2.1 &&& 31)) :: q.2.2) h c)
  | .ishr => qm_ln len 1 ((qm_p2 st).bind fun q => qm_go (pc + 1) lv (vI (q.1 >>> (q.2.1 &&& 31)) :: q.2.2) h c)
  | .i2l => qm_ln len 1 ((qm_p1 st).bind fun q => qm_go (pc + 1) lv (vL q.1.toInt64 :: q.2) h c)
  | .lcmp => qm_ln len 1 ((qm_pll st).bind fun q => qm_go (pc + 1) lv (vI (lg_cmp q.1 q.2.1) :: q.2.2) h c)
  | .dup => qm_ln len 1 ((qm_c1 st).bind fun q => qm_go (pc + 1) lv (q.1 :: q.1 :: q.2) h c)
  | .dup2 => qm_ln len 1 ((qm_c2 st).bind fun q => qm_go (pc + 1) lv (q.1 :: q.2.1 :: q.1 :: q.2.1 :: q.2.2) h c)
  | .dup_x1 => qm_ln len 1 ((qm_c2 st).bind fun q => qm_go (pc + 1) lv (q.1 :: q.2.1 :: q.1 :: q.2.2) h c)
  | .dup_x2 => qm_ln len 1 ((qm_c3 st).bind fun q => qm_go (pc + 1) lv (q.1 :: q.2.1 :: q.2.2.1 :: q.1 :: q.2.2.2) h c)
  | .pop => qm_ln len 1 ((qm_c1 st).bind fun q => qm_go (pc + 1) lv q.2 h c)
  | .ifCond k off => qm_ln len 3 ((qm_p1 st).bind fun q => (qm_to pc off).bind fun t => qm_go (bif qm_cmp k q.1 0 then t else pc + 3) lv q.2 h c)
  | .if_icmp k off => qm_ln len 3 ((qm_p2 st).bind fun q => (qm_to pc off).bind fun t => qm_go (bif qm_cmp k q.1 q.2.1 then t else pc + 3) lv q.2.2 h c)
  | .goto off => qm_ln len 3 ((qm_to pc off).bind fun t => qm_go t lv st h c)
  | .tableswitch d lo hi offs => (qm_p1 st).bind fun q => if q.1.toInt < lo ∨ hi < q.1.toInt then (qm_to pc d).bind fun t => qm_go t lv q.2 h c
      else (offs[(q.1.toInt - lo).toNat]?).bind fun off => (qm_to pc off).bind fun t => qm_go t lv q.2 h c
  | .lookupswitch d ps => (qm_p1 st).bind fun q => if (ps.toList.zip (ps.toList.drop 1)).all (fun (a, next) => a.1 < next.1) = true then (qm_to pc (Op.lookupswitch.offset ps.toList d q.1.toInt)).bind fun t => qm_go t lv q.2 h c else none
  | .getfield ix => qm_ln len 3 ((qm_pr st).bind fun q => (qt_fld (qt_own m) ix).bind fun f => if qk_tag q.1 = 0 ∧ qk_cls q.1 = f.1 then qm_go (pc + 3) lv (h.2 q.1 q.2.1 f.2 :: q.2.2) h c else none)
  | .putfield ix => qm_ln len 3 ((qm_pvr st).bind fun q => (qt_fld (qt_own m) ix).bind fun f => if qk_tag q.2.1 = 0 ∧ qk_cls q.2.1 = f.1 ∧ qm_fits m f.1 f.2 q.1 = true ∧ qt_pure m = false then qm_go (pc + 3) lv q.2.2.2 (qm_put h q.2.1 q.2.2.1 f.2 q.1) c else none)
  | .getstatic ix => qm_ln len 3 ((qt_sta (qt_own m) ix).bind fun k => qm_go (pc + 3) lv (vR k 0 :: st) h c)
  | .iaload => qm_ln len 1 ((qm_pir st).bind fun q => if qk_tag q.2.1 = 1 then (if qm_inb q.1 (qk_len q.2.1) = true then (qm_toI (h.2 q.2.1 q.2.2.1 q.1.toNatClampNeg)).bind fun x => qm_go (pc + 1) lv (vI x :: q.2.2.2) h c else none)
      else if qk_tag q.2.1 = 5 then (if qm_inb q.1 (ro q.2.1).1 = true then qm_go (pc + 1) lv (vI ((ro q.2.1).2 q.1.toNatClampNeg) :: q.2.2.2) h c else none) else none)
  | .baload => qm_ln len 1 ((qm_pir st).bind fun q => if qk_tag q.2.1 = 2 ∧ qm_inb q.1 (qk_len q.2.1) = true then (qm_toI (h.2 q.2.1 q.2.2.1 q.1.toNatClampNeg)).bind fun x => qm_go (pc + 1) lv (vI x :: q.2.2.2) h c else none)
  | .laload => qm_ln len 1 ((qm_pir st).bind fun q => if qk_tag q.2.1 = 3 ∧ qm_inb q.1 (qk_len q.2.1) = true then qm_go (pc + 1) lv (h.2 q.2.1 q.2.2.1 q.1.toNatClampNeg :: q.2.2.2) h c else none)
  | .aaload => qm_ln len 1 ((qm_pir st).bind fun q => if qk_tag q.2.1 = 4 ∧ qm_inb q.1 (qk_len q.2.1) = true then qm_go (pc + 1) lv (h.2 q.2.1 q.2.2.1 q.1.toNatClampNeg :: q.2.2.2) h c else none)
  | .iastore => qm_ln len 1 ((qm_piir st).bind fun q => if qk_tag q.2.2.1 = 1 ∧ qm_inb q.2.1 (qk_len q.2.2.1) = true ∧ qt_pure m = false then qm_go (pc + 1) lv q.2.2.2.2 (qm_put h q.2.2.1 q.2.2.2.1 q.2.1.toNatClampNeg (vI q.1)) c else none)
  | .bastore => qm_ln len 1 ((qm_piir st).bind fun q => if qk_tag q.2.2.1 = 2 ∧ qm_inb q.2.1 (qk_len q.2.2.1) = true ∧ (q.1 = 0 ∨ q.1 = 1) ∧ qt_pure m = false then qm_go (pc + 1) lv q.2.2.2.2 (qm_put h q.2.2.1 q.2.2.2.1 q.2.1.toNatClampNeg (vI q.1)) c else none)
  | .lastore => qm_ln len 1 ((qm_plir st).bind fun q => if qk_tag q.2.2.1 = 3 ∧ qm_inb q.2.1 (qk_len q.2.2.1) = true ∧ qt_pure m = false then qm_go (pc + 1) lv q.2.2.2.2 (qm_put h q.2.2.1 q.2.2.2.1 q.2.1.toNatClampNeg (vL q.1)) c else none)
  | .aastore => qm_ln len 1 ((qm_prir st).bind fun q => if qk_tag q.2.2.2.1 = 4 ∧ qm_inb q.2.2.1 (qk_len q.2.2.2.1) = true ∧ qk_tag q.1 = 0 ∧ qk_cls q.1 = qk_cls q.2.2.2.1 ∧ qt_pure m = false then qm_go (pc + 1) lv q.2.2.2.2.2 (qm_put h q.2.2.2.1 q.2.2.2.2.1 q.2.2.1.toNatClampNeg (vR q.1 q.2.1)) c else none)
  | .arraylength => qm_ln len 1 ((qm_pr st).bind fun q => if qk_tag q.1 = 5 then qm_go (pc + 1) lv (vI (Int32.ofNat (ro q.1).1) :: q.2.2) h c
      else if 1 ≤ qk_tag q.1 ∧ qk_tag q.1 ≤ 4 then qm_go (pc + 1) lv (vI (Int32.ofNat (qk_len q.1)) :: q.2.2) h c else none)
  | .new ix => qm_ln len 3 ((qt_site m pc).bind fun k => if 0 < k ∧ qk_tag k = 0 ∧ qt_cix (qt_own m) ix = some (qk_cls k) ∧ qt_pure m = false then qm_go (pc + 3) lv (vR k (h.1 k) :: st) (qm_new h k (qk_def k)) (c.1 + 1, c.2 + qk_len k) else none)
  | .newarray ty => qm_ln len 2 ((qm_p1 st).bind fun q => (qt_site m pc).bind fun k => if 0 < k ∧ q.1 = Int32.ofNat (qk_len k) ∧ ((ty = .int ∧ qk_tag k = 1) ∨ (ty = .boolean ∧ qk_tag k = 2) ∨ (ty = .long ∧ qk_tag k = 3)) ∧ qt_pure m = false then qm_go (pc + 2) lv (vR k (h.1 k) :: q.2) (qm_new h k (qk_def k)) (c.1 + 1, c.2 + qk_len k) else none)
  | .anewarray ix => qm_ln len 3 ((qm_p1 st).bind fun q => (qt_site m pc).bind fun k => if 0 < k ∧ q.1 = Int32.ofNat (qk_len k) ∧ qk_tag k = 4 ∧ qt_cix (qt_own m) ix = some (qk_cls k) ∧ qt_pure m = false then qm_go (pc + 3) lv (vR k (h.1 k) :: q.2) (qm_new h k (qk_def k)) (c.1 + 1, c.2 + qk_len k) else none)
  | _ => none
def qm_max (x y : Int32) : Int32 := if x < y then y else x
def qm_min (x y : Int32) : Int32 := if y < x then y else x
/-- the arguments of a call of method y: receiver first, the last on top -/
def qm_args (na : Nat) (st : List qm_V) : Option (List qm_V × List qm_V) := if na ≤ st.length then some ((st.take na).reverse, st.drop na) else none
/-- the receiver is an object of the method's own kind -/
def qm_recv (y : Nat) (as : List qm_V) : Bool := decide (qt_kind y = 0) || (match as with
  | .inr (.inl (k + 1, _)) :: _ => decide (qk_tag (k + 1) = 0) && decide (qk_cls (k + 1) = qt_own y)
  | _ => false)
abbrev qm_N : Type := qm_R ⊕ (qm_S ⊕ (Nat × List qm_V × qm_S))
def qm_next (x : Option qm_S) : Option qm_N := x.map fun y => .inr (.inl y)
/-- Object.<init>, Math.max, Math.min -/
def qm_spc (d kd sp pc : Nat) (lv : qm_L) (st : List qm_V) (h : qm_H) (c : qm_C) : Option qm_S := if 1 ≤ d then (match kd, sp with
    | 2, 1 => (qm_pr st).bind fun q => if (q.2.2.map qm_cat).sum ≤ 8 then qm_go (pc + 3) lv q.2.2 h c else none
    | 0, 2 => (qm_p2 st).bind fun q => if (q.2.2.map qm_cat).sum ≤ 8 then qm_go (pc + 3) lv (vI (qm_max q.1 q.2.1) :: q.2.2) h c else none
    | 0, 3 => (qm_p2 st).bind fun q => if (q.2.2.map qm_cat).sum ≤ 8 then qm_go (pc + 3) lv (vI (qm_min q.1 q.2.1) :: q.2.2) h c else none
    | _, _ => none) else none
def qm_call (d kd m ix pc : Nat) (lv : qm_L) (st : List qm_V) (h : qm_H) (c : qm_C) : Option qm_N := match qt_met (qt_own m) ix with
  | some y => (qm_args (qt_na y) st).bind fun q => if qt_kind y = kd ∧ qm_recv y q.1 = true ∧ (q.1.map qm_cat).sum = q.1.length ∧ (q.2.map qm_cat).sum ≤ 8 ∧ (qt_pure m = true → qt_pure y = true) then some (.inr (.inr (y, q.1, (pc, lv, q.2, h, c)))) else none
  | none => qm_next (qm_spc d kd (qt_spc (qt_own m) ix) pc lv st h c)
/-- one step: an end, a next state, or a call -/
def qm_stp (ro : Nat → Nat × (Nat → Int32)) (d m pc : Nat) (lv : qm_L) (st : List qm_V) (h : qm_H) (c : qm_C) : Option qm_N := match qt_thr m pc with
  | some k => if 6 ≤ d ∧ c = (0, 0) ∧ st = [] ∧ qt_pure m = true then some (.inl (.inr k, qm_new h k (fun _ => vI 0), (1, 6))) else none
  | none => match qt_code m pc with
    | none => none
    | some (i, len) => match i with
      | .ireturn => if len = 1 then (match st with
        | [.inl v] => if qt_ret m = 1 ∨ (qt_ret m = 2 ∧ (v = 0 ∨ v = 1)) then some (.inl (.inl (some (vI v)), h, c)) else none
        | _ => none) else none
      | .return_ => if len = 1 then (match st with
        | [] => if qt_ret m = 0 then some (.inl (.inl none, h, c)) else none
        | _ => none) else none
      | .invokestatic ix => if len = 3 then qm_call d 0 m ix pc lv st h c else none
      | .invokevirtual ix => if len = 3 then qm_call d 1 m ix pc lv st h c else none
      | .invokespecial ix => if len = 3 then qm_call d 2 m ix pc lv st h c else none
      | i => qm_next (qm_1 ro m i len pc lv st h c)
/-- the entry's locals -/
def qm_ent (y : Nat) (as : List qm_V) : qm_L := as.map some ++ List.replicate (qt_maxL y - as.length) none
def qm_hnd (k pc : Nat) : List (Nat × Nat × Nat × Nat) → Option Nat
  | [] => none
  | (a, b, t, j) :: r => if a ≤ pc ∧ pc < b ∧ j = k then some t else qm_hnd k pc r
/-- behind a call -/
def qm_back (m : Nat) (x : qm_S) (o : qm_O) (h : qm_H) (c : qm_C) : Option (qm_R ⊕ qm_S) := match o with
  | .inl v => some (.inr (x.1 + 3, x.2.1, v.toList ++ x.2.2.1, h, (x.2.2.2.2.1 + c.1, x.2.2.2.2.2 + c.2)))
  | .inr k => match qt_hnd m with
    | [] => some (.inl (.inr k, h, (x.2.2.2.2.1 + c.1, x.2.2.2.2.2 + c.2)))
    | q :: r => (qm_hnd k x.1 (q :: r)).bind fun t => some (.inr (t, x.2.1, [vR k (h.1 k - 1)], h, (x.2.2.2.2.1 + c.1, x.2.2.2.2.2 + c.2)))
/-- the run: fuel, depth, method, state -/
def qm_run (ro : Nat → Nat × (Nat → Int32)) : Nat → Nat → Nat → qm_S → Option qm_R
  | 0, _, _, _ => none
  | n + 1, d, m, x => match qm_stp ro d m x.1 x.2.1 x.2.2.1 x.2.2.2.1 x.2.2.2.2 with
    | none => none
    | some (.inl r) => some r
    | some (.inr (.inl y)) => qm_run ro n d m y
    | some (.inr (.inr (y, as, z))) => match d with
      | 0 => none
      | d + 1 => match qm_run ro n d y (0, qm_ent y as, [], z.2.2.2.1, (0, 0)) with
        | none => none
        | some (o, h, c) => match qm_back m z o h c with
          | none => none
          | some (.inl r) => some r
          | some (.inr w) => qm_run ro n (d + 1) m w
def qm_E (ro : Nat → Nat × (Nat → Int32)) (d m : Nat) (x : qm_S) (r : qm_R) : Prop := ∃ n, qm_run ro n d m x = some r
