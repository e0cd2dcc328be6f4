/-! one instruction on lists -/
section XS
def xstep (o nL : Nat) (ini : Bool) (sc : Option (List Int32)) (i : Instr) (pc : Nat) (lv : xL) (st : List Value) (h : xH) (ks : Nat) : Option xC := match i with
  | .iconst n => some (pc + 1, lv, .int (Int32.ofInt n) :: st, h, ks)
  | .bipush n => some (pc + 2, lv, .int (Int8.ofInt n).toInt32 :: st, h, ks)
  | .sipush n => some (pc + 3, lv, .int (Int16.ofInt n).toInt32 :: st, h, ks)
  | .lconst n => some (pc + 1, lv, .long (Int64.ofNat (n : Nat)) :: st, h, ks)
  | .dconst n => some (pc + 1, lv, .double ((if n = 0 then FP.dconst0 else FP.dconst1)) :: st, h, ks)
  | .aconst_null => some (pc + 1, lv, .null :: st, h, ks)
  | .ldc x => match xfnd (xconT o) x with | some (v, _) => some (pc + 2, lv, .int v :: st, h, ks) | none => none
  | .ldc_w x => match xfnd (xconT o) x with | some (v, _) => some (pc + 3, lv, .int v :: st, h, ks) | none => none
  | .ldc2_w x => match xfnd (xcolT o) x with | some (v, _) => some (pc + 3, lv, .long v :: st, h, ks) | none => none
  | .iload_n k => match xlk k lv with | some (.int x) => some (pc + 1, lv, .int x :: st, h, ks) | _ => none
  | .iload k => match xlk k lv with | some (.int x) => some (pc + 2, lv, .int x :: st, h, ks) | _ => none
  | .lload_n k => match xlk k lv with | some (.long x) => some (pc + 1, lv, .long x :: st, h, ks) | _ => none
  | .lload k => match xlk k lv with | some (.long x) => some (pc + 2, lv, .long x :: st, h, ks) | _ => none
  | .dload k => match xlk k lv with | some (.double x) => some (pc + 2, lv, .double x :: st, h, ks) | _ => none
  | .aload_n k => match xlk k lv with | some (.ref x) => some (pc + 1, lv, .ref x :: st, h, ks) | _ => none
  | .aload k => match xlk k lv with | some (.ref x) => some (pc + 2, lv, .ref x :: st, h, ks) | _ => none
  | .istore_n k => match st with | .int x :: st => if (k : Nat) < nL then some (pc + 1, xs1 k (.int x) lv, st, h, ks) else none | _ => none
  | .istore k => match st with | .int x :: st => if (k : Nat) < nL then some (pc + 2, xs1 k (.int x) lv, st, h, ks) else none | _ => none
  | .astore_n k => match st with | .ref x :: st => if (k : Nat) < nL then some (pc + 1, xs1 k (.ref x) lv, st, h, ks) else none | _ => none
  | .astore k => match st with | .ref x :: st => if (k : Nat) < nL then some (pc + 2, xs1 k (.ref x) lv, st, h, ks) else none | _ => none
  | .lstore_n k => match st with | .long x :: st => if (k : Nat) + 1 < nL then some (pc + 1, xs2 k (.long x) lv, st, h, ks) else none | _ => none
  | .lstore k => match st with | .long x :: st => if (k : Nat) + 1 < nL then some (pc + 2, xs2 k (.long x) lv, st, h, ks) else none | _ => none
  | .dstore k => match st with | .double x :: st => if (k : Nat) + 1 < nL then some (pc + 2, xs2 k (.double x) lv, st, h, ks) else none | _ => none
  | .iinc k n => match xlk k lv with | some (.int x) => if (k : Nat) < nL then some (pc + 3, xs1 k (.int (x + Int32.ofInt n)) lv, st, h, ks) else none | _ => none
  | .iadd => match st with | .int y :: .int x :: st => some (pc + 1, lv, .int (x + y) :: st, h, ks) | _ => none
  | .isub => match st with | .int y :: .int x :: st => some (pc + 1, lv, .int (x - y) :: st, h, ks) | _ => none
  | .imul => match st with | .int y :: .int x :: st => some (pc + 1, lv, .int (x * y) :: st, h, ks) | _ => none
  | .idiv => match st with | .int y :: .int x :: st => if y = 0 then none else some (pc + 1, lv, .int (x / y) :: st, h, ks) | _ => none
  | .irem => match st with | .int y :: .int x :: st => if y = 0 then none else some (pc + 1, lv, .int (x - x / y * y) :: st, h, ks) | _ => none
  | .ineg => match st with | .int x :: st => some (pc + 1, lv, .int (-x) :: st, h, ks) | _ => none
  | .iand => match st with | .int y :: .int x :: st => some (pc + 1, lv, .int (x &&& y) :: st, h, ks) | _ => none
  | .ior => match st with | .int y :: .int x :: st => some (pc + 1, lv, .int (x ||| y) :: st, h, ks) | _ => none
  | .ixor => match st with | .int y :: .int x :: st => some (pc + 1, lv, .int (x ^^^ y) :: st, h, ks) | _ => none
  | .ishl => match st with | .int y :: .int x :: st => some (pc + 1, lv, .int (x <<< (y &&& 31)) :: st, h, ks) | _ => none
  | .ishr => match st with | .int y :: .int x :: st => some (pc + 1, lv, .int (x >>> (y &&& 31)) :: st, h, ks) | _ => none
  | .iushr => match st with | .int y :: .int x :: st => some (pc + 1, lv, .int (x.toUInt32 >>> (y.toUInt32 &&& Int32.toUInt32 31)).toInt32 :: st, h, ks) | _ => none
  | .ladd => match st with | .long y :: .long x :: st => some (pc + 1, lv, .long (x + y) :: st, h, ks) | _ => none
  | .lmul => match st with | .long y :: .long x :: st => some (pc + 1, lv, .long (x * y) :: st, h, ks) | _ => none
  | .lcmp => match st with | .long y :: .long x :: st => some (pc + 1, lv, .int (lg_cmp x y) :: st, h, ks) | _ => none
  | .dcmp op => match st with | .double y :: .double x :: st => some (pc + 1, lv, .int (Op.cmpValue (FP.dcmp x y) op) :: st, h, ks) | _ => none
  | .i2l => match st with | .int x :: st => some (pc + 1, lv, .long x.toInt64 :: st, h, ks) | _ => none
  | .dup => match st with | x :: st => if x.category = 1 then some (pc + 1, lv, x :: x :: st, h, ks) else none | _ => none
  | .pop => match st with | x :: st => if x.category = 1 then some (pc + 1, lv, st, h, ks) else none | _ => none
  | .dup_x1 => match st with | x :: y :: st => if x.category = 1 then if y.category = 1 then some (pc + 1, lv, x :: y :: x :: st, h, ks) else none else none | _ => none
  | .dup2 => match st with | x :: y :: st => if x.category = 1 then if y.category = 1 then some (pc + 1, lv, x :: y :: x :: y :: st, h, ks) else none else none | _ => none
  | .if_icmp c off => match st with
    | .int y :: .int x :: st => match xj pc off with | some t => bif xcmp c x y then some (t, lv, st, h, ks) else some (pc + 3, lv, st, h, ks) | none => none
    | _ => none
  | .ifCond c off => match st with
    | .int x :: st => match xj pc off with | some t => bif xcmp c x 0 then some (t, lv, st, h, ks) else some (pc + 3, lv, st, h, ks) | none => none
    | _ => none
  | .goto off => match xj pc off with | some t => some (t, lv, st, h, ks) | none => none
  | .tableswitch d lo hi offs => match st with
    | .int x :: st => if x.toInt < lo then (match xj pc d with | some t => some (t, lv, st, h, ks) | none => none) else
        if hi < x.toInt then (match xj pc d with | some t => some (t, lv, st, h, ks) | none => none) else
        match offs[(x.toInt - lo).toNat]? with
        | some off => (match xj pc off with | some t => some (t, lv, st, h, ks) | none => none)
        | none => none
    | _ => none
  | .lookupswitch d ps => match st with
    | .int x :: st => bif (ps.toList.zip (ps.toList.drop 1)).all (fun (a, next) => a.1 < next.1) then
        (match xj pc (Op.lookupswitch.offset ps.toList d x.toInt) with | some t => some (t, lv, st, h, ks) | none => none) else none
    | _ => none
  | .getfield x => match st with
    | .ref a :: st => match xfnd (xfldT o) x with
      | some (ci, k, _, _) => match xget h a with
        | some (t, fs) => if t = ci then (match fs[k]? with | some v => some (pc + 3, lv, v :: st, h, ks) | none => none) else none
        | none => none
      | none => none
    | _ => none
  | .putfield x => match st with
    | v :: .ref a :: st => match xfnd (xfldT o) x with
      | some (ci, k, kd, _) => match xget h a with
        | some (t, fs) => match xcl[ci]? with
          | some (_, T, _) => if t = ci ∧ k < fs.length ∧ narrow (xtyf ci k) v = v ∧ fits (xtyf ci k) v = true ∧ ((T k).2.2.2 = false ∨ (ini = true ∧ kd = 0 ∧ (T k).1 = xown o)) then some (pc + 3, lv, st, xset h a (t, fs.set k v), ks) else none
          | none => none
        | none => none
      | none => none
    | _ => none
  | .new x => match xfnd (xnewT o) x with
    | some (ci, _) => match xcl[ci]? with
      | some (_, _, N) => if 0 < N then some (pc + 3, lv, .ref (h.length + 4) :: st, h ++ [(ci, xdef ci)], ks + N) else none
      | none => none
    | none => none
  | .newarray aty => match st with
    | .int n :: st => match xati aty with
      | some t => if n < 0 then none else if n.toNatClampNeg * componentBytes (xtT t) ≤ 536870912 then some (pc + 2, lv, .ref (h.length + 4) :: st, h ++ [(100 + t, List.replicate n.toNatClampNeg (xdv t))], ks + n.toNatClampNeg) else none
      | none => none
    | _ => none
  | .arraylength => match st with
    | .ref a :: st => match xget h a with
      | some (t, vs) => if 100 ≤ t ∧ t < 106 then some (pc + 1, lv, .int (Int32.ofNat vs.length) :: st, h, ks) else none
      | none => match sc with
        | some l => if a = 0 then some (pc + 1, lv, .int (Int32.ofNat l.length) :: st, h, ks) else none
        | none => none
    | _ => none
  | .iaload => match st with
    | .int x :: .ref a :: st => match xget h a with
      | some (t, vs) => if t = 100 then (match xix x vs.length with | some k => (match vs[k]? with | some v => some (pc + 1, lv, v :: st, h, ks) | none => none) | none => none) else none
      | none => match sc with
        | some l => if a = 0 then (match xix x l.length with | some k => some (pc + 1, lv, .int (l.getD k 0) :: st, h, ks) | none => none) else none
        | none => none
    | _ => none
  | .baload => match st with
    | .int x :: .ref a :: st => match xget h a with
      | some (t, vs) => if t = 102 then (match xix x vs.length with | some k => (match vs[k]? with | some v => some (pc + 1, lv, v :: st, h, ks) | none => none) | none => none) else none
      | none => none
    | _ => none
  | .aaload => match st with
    | .int x :: .ref a :: st => match xget h a with
      | some (t, vs) => if 103 ≤ t ∧ t < 106 then (match xix x vs.length with | some k => (match vs[k]? with | some v => some (pc + 1, lv, v :: st, h, ks) | none => none) | none => none) else none
      | none => none
    | _ => none
  | .iastore => match st with
    | .int v :: .int x :: .ref a :: st => match xget h a with
      | some (t, vs) => if t = 100 then (match xix x vs.length with | some k => some (pc + 1, lv, st, xset h a (t, vs.set k (.int v)), ks) | none => none) else none
      | none => none
    | _ => none
  | .bastore => match st with
    | .int v :: .int x :: .ref a :: st => match xget h a with
      | some (t, vs) => if t = 102 then (match xix x vs.length with | some k => some (pc + 1, lv, st, xset h a (t, vs.set k (narrow .boolean (.int v))), ks) | none => none) else none
      | none => none
    | _ => none
  | .aastore => match st with
    | .ref v :: .int x :: .ref a :: st => match xget h a, xget h v with
      | some (t, vs), some (t2, _) => if (t = 103 ∧ t2 = 100) ∨ (t = 104 ∧ t2 = 103) ∨ (t = 105 ∧ t2 = 102) then (match xix x vs.length with | some k => some (pc + 1, lv, st, xset h a (t, vs.set k (.ref v)), ks) | none => none) else none
      | _, _ => none
    | _ => none
  | _ => none
end XS
