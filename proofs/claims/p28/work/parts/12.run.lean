/-! a run on lists: instruction by instruction, call by call -/
section XO
/-- how a run ends: the class thrown, if one was; the answer; the cells; how many slots were made -/
abbrev xO : Type := Option Nat × Option Value × xH × Nat
def xexit (μ : Nat) (i : Instr) (st : List Value) : Option (Option Value) := match i, st with
  | .ireturn, [.int v] => match xmr μ with
    | some t => if narrow t (.int v) = .int v then some (some (.int v)) else none
    | none => none
  | .lreturn, [.long v] => if xmr μ = some .long then some (some (.long v)) else none
  | .dreturn, [.double v] => if xmr μ = some .double then some (some (.double v)) else none
  | .areturn, [.ref a] => match xmr μ with
    | some (.object _) => some (some (.ref a))
    | some (.array _) => some (some (.ref a))
    | _ => none
  | .return_, [] => if xmr μ = none then some none else none
  | _, _ => none
def xinv (o μ x : Nat) (st : List Value) : Option (Nat × Nat × List Value × List Value) := match xfnd (xcalT o) x with
  | some (k, μ', _) =>
    if xmn μ' ≤ st.length then
      if k = 2 ∨ k = 3 then
        if ((st.drop (xmn μ')).map fun v => v.category).sum ≤ 8 ∧ xmf μ' + 1 ≤ xmf μ ∧ 8 + (xml μ' + 11) + xmlo μ' ≤ xmlo μ then some (k, μ', (st.take (xmn μ')).reverse, st.drop (xmn μ')) else none
      else match st.drop (xmn μ') with
        | .ref b :: rest => if (rest.map fun v => v.category).sum ≤ 8 ∧ xmf μ' + 1 ≤ xmf μ ∧ 8 + (xml μ' + 11) + xmlo μ' ≤ xmlo μ then some (k, μ', .ref b :: (st.take (xmn μ')).reverse, rest) else none
        | _ => none
    else none
  | none => none
/-- Math's own -/
def xmath (o μ x : Nat) (st : List Value) : Option (Int32 × List Value) := match xfnd (xcalT o) x with
  | some (7, _) => match st with
    | .int y :: .int x :: rest => if (rest.map fun v => v.category).sum + 13 ≤ xmlo μ ∧ 1 ≤ xmf μ then some (if x < y then y else x, rest) else none
    | _ => none
  | some (8, _) => match st with
    | .int y :: .int x :: rest => if (rest.map fun v => v.category).sum + 13 ≤ xmlo μ ∧ 1 ≤ xmf μ then some (if y < x then y else x, rest) else none
    | _ => none
  | some (9, _) => match st with
    | .int x :: rest => if (rest.map fun v => v.category).sum + 13 ≤ xmlo μ ∧ 1 ≤ xmf μ then some (if 0 ≤ x then x else 0 - x, rest) else none
    | _ => none
  | _ => none
def xisI : Value → Bool
  | .int _ => true
  | _ => false
/-- System.arraycopy of ints, the first ones onto the first ones -/
def xcpy (o μ x : Nat) (st : List Value) (h : xH) : Option (List Value × xH) := match xfnd (xcalT o) x with
  | some (10, _) => match st with
    | .int n :: .int z1 :: .ref b :: .int z0 :: .ref a :: rest => match xget h a, xget h b with
      | some (t0, us), some (t1, vs) => if t0 = 100 ∧ t1 = 100 ∧ z0 = 0 ∧ z1 = 0 ∧ ¬ n < 0 ∧ n.toNatClampNeg ≤ us.length ∧ n.toNatClampNeg ≤ vs.length ∧ us.all xisI = true ∧ (rest.map fun v => v.category).sum + 18 ≤ xmlo μ ∧ 1 ≤ xmf μ then some (rest, xset h b (100, us.take n.toNatClampNeg ++ vs.drop n.toNatClampNeg)) else none
      | _, _ => none
    | _ => none
  | _ => none
/-- a row of rows of ints, of none -/
def xanw (o x : Nat) (st : List Value) : Option (List Value) := match xfnd (xmulT o) x with
  | some (0, _) => match st with
    | .int n :: rest => if n = 0 then some rest else none
    | _ => none
  | _ => none
/-- the rows of outer arrays -/
def xmk2 (t n k lab : Nat) : xH := (100 + (if t = 0 then 3 else 5), (List.range n).map (fun i => Value.ref (lab + 1 + i))) :: List.replicate n (100 + t, List.replicate k (xdv t))
def xmk3 (n k r lab : Nat) : xH := (104, (List.range n).map (fun i => Value.ref (lab + 1 + i * (1 + k)))) :: (List.range n).flatMap (fun i => xmk2 0 k r (lab + 1 + i * (1 + k)))
def xmul (o x dm : Nat) (st : List Value) (lab : Nat) : Option (List Value × xH × Nat) := match xfnd (xmulT o) x with
  | some (t, _) =>
    if dm = 2 ∧ (t = 3 ∨ t = 5) then match st with
      | .int k :: .int n :: rest => if n < 0 ∨ k < 0 ∨ 1000 < n ∨ 1000 < k then none else some (rest, xmk2 (xcomp t) n.toNatClampNeg k.toNatClampNeg lab, n.toNatClampNeg + n.toNatClampNeg * k.toNatClampNeg)
      | _ => none
    else if dm = 3 ∧ t = 4 then match st with
      | .int r :: .int k :: .int n :: rest => if n < 0 ∨ k < 0 ∨ r < 0 ∨ 1000 < n ∨ 1000 < k ∨ 1000 < r then none else some (rest, xmk3 n.toNatClampNeg k.toNatClampNeg r.toNatClampNeg lab, n.toNatClampNeg + n.toNatClampNeg * (k.toNatClampNeg + k.toNatClampNeg * r.toNatClampNeg))
      | _ => none
    else none
  | none => none
def xrecv (μ' : Nat) (as : List Value) (h : xH) : Bool := match as with
  | .ref b :: _ => match xget h b with
    | some (ci, _) => decide (ci = xmo μ') && Nat.blt ci xNX
    | none => false
  | _ => false
/-- the one is not the other -/
def xnc (ci ci' : Nat) : Bool := match xcl[ci]?, xcl[ci']? with
  | some (C, _, _), some (C', _, _) => xncT.any (fun z => decide (z.1 = C) && decide (z.2 = C'))
  | _, _ => false
/-- the handler of a class thrown at pc -/
def xhnd (o pc ci : Nat) : List (Nat × Nat × Nat × Nat) → Option Nat
  | [] => none
  | (s, e, hp, ct) :: r => if s ≤ pc ∧ pc < e then (match xfnd (xnewT o) ct with
      | some (ci', _) => if ci' = ci then some hp else if xnc ci ci' = true then xhnd o pc ci r else none
      | none => none) else xhnd o pc ci r
def xctch (o μ pc ci : Nat) (cod : List (Option Instr)) : Option (Nat × Nat × Nat) := match xhnd o pc ci (xmh μ) with
  | some hp => match cod[hp]? with
    | some (some (.astore_n k)) => some (hp, hp + 1, k)
    | some (some (.astore k)) => some (hp, hp + 2, k)
    | _ => none
  | none => none
def xdel (i : Nat) (lv : xL) : xL := lv.filter (fun q => !(q.1 == i) && !(q.1 + 1 == i && q.2.category == 2))
/-- the run of one method, by fuel; 'call' runs the others -/
def xloop (call : Nat → List Value → xH → Nat → Option xO) (sc : Option (List Int32)) (μ o nL : Nat) (ini : Bool) (cod : List (Option Instr)) : Nat → Nat → xL → List Value → xH → Nat → Option xO
  | 0, _, _, _, _, _ => none
  | n + 1, pc, lv, st, h, ks => match cod[pc]? with
    | some (some i) => match i with
      | .ireturn => match xexit μ .ireturn st with | some r => some (none, r, h, ks) | none => none
      | .lreturn => match xexit μ .lreturn st with | some r => some (none, r, h, ks) | none => none
      | .dreturn => match xexit μ .dreturn st with | some r => some (none, r, h, ks) | none => none
      | .areturn => match xexit μ .areturn st with | some r => some (none, r, h, ks) | none => none
      | .return_ => match xexit μ .return_ st with | some r => some (none, r, h, ks) | none => none
      | .invokestatic x => match xmath o μ x st with
        | some (v, rest) => xloop call sc μ o nL ini cod n (pc + 3) lv (.int v :: rest) h ks
        | none => match xinv o μ x st with
          | some (k, μ', as, rest) => if k = 2 then (match call μ' as h ks with
              | some (none, r, h', ks') => xloop call sc μ o nL ini cod n (pc + 3) lv (r.toList ++ rest) h' ks'
              | some (some t, _, h', ks') => if xcod μ' = true then (if xmh μ = [] then some (some t, none, h', ks') else (match xctch o μ pc t cod with
                | some (_, pc', j) => if j < nL then xloop call sc μ o nL ini cod n pc' (xdel j lv) [] h' ks' else none
                | none => none)) else none
              | none => none) else if k = 3 ∧ xcod μ' = true then (match call μ' as h ks with
              | some (none, r, h', ks') => xloop call sc μ o nL ini cod n (pc + 3) lv (r.toList ++ rest) h' ks'
              | _ => none) else none
          | none => match xcpy o μ x st h with
            | some (rest, h') => xloop call sc μ o nL ini cod n (pc + 3) lv rest h' ks
            | none => none
      | .invokevirtual x => match xinv o μ x st with
        | some (k, μ', as, rest) => if k = 1 ∧ xrecv μ' as h = true ∧ xcod μ' = true then (match call μ' as h ks with
            | some (none, r, h', ks') => xloop call sc μ o nL ini cod n (pc + 3) lv (r.toList ++ rest) h' ks'
            | some (some t, _, h', ks') => if xmh μ = [] then some (some t, none, h', ks') else (match xctch o μ pc t cod with
              | some (_, pc', j) => if j < nL then xloop call sc μ o nL ini cod n pc' (xdel j lv) [] h' ks' else none
              | none => none)
            | none => none) else none
        | none => none
      | .invokespecial x => match xfnd (xcalT o) x with
        | some (6, _) => match st with
          | .ref _ :: rest => if (rest.map fun v => v.category).sum + 12 ≤ xmlo μ ∧ 1 ≤ xmf μ then xloop call sc μ o nL ini cod n (pc + 3) lv rest h ks else none
          | _ => none
        | _ => match xinv o μ x st with
          | some (k, μ', as, rest) => if (k = 0 ∨ k = 4) ∧ xmr μ' = none ∧ xini μ' = true ∧ xcod μ' = true then (match call μ' as h ks with
              | some (none, r, h', ks') => xloop call sc μ o nL ini cod n (pc + 3) lv (r.toList ++ rest) h' ks'
              | _ => none) else none
          | none => none
      | .getstatic x => match xfnd (xgstT o) x with
        | some _ => xloop call sc μ o nL ini cod n (pc + 3) lv (.ref 1 :: st) h ks
        | none => none
      | .invokeinterface x _ => match xfnd (xitfT o) x with
        | some (μ', _) => match st with
          | .ref b :: rest => if (rest.map fun v => v.category).sum ≤ 8 ∧ xmf μ' + 1 ≤ xmf μ ∧ 8 + (xml μ' + 11) + xmlo μ' ≤ xmlo μ ∧ xrecv μ' [.ref b] h = true ∧ xcod μ' = true then (match call μ' [.ref b] h ks with
              | some (none, r, h', ks') => xloop call sc μ o nL ini cod n (pc + 5) lv (r.toList ++ rest) h' ks'
              | _ => none) else none
          | _ => none
        | none => none
      | .multianewarray x dm => match xmul o x dm st (h.length + 4) with
        | some (rest, es, sl) => xloop call sc μ o nL ini cod n (pc + 4) lv (.ref (h.length + 4) :: rest) (h ++ es) (ks + sl)
        | none => none
      | .anewarray x => match xanw o x st with
        | some rest => xloop call sc μ o nL ini cod n (pc + 3) lv (.ref (h.length + 4) :: rest) (h ++ [(103, [])]) ks
        | none => none
      | .new x => match xfnd (xthrT μ) pc with
        | some (ci, _) => (match st with
          | [] => if xmh μ = [] then some (some ci, none, h ++ [(ci, [])], ks + 6) else none
          | _ => none)
        | none => match xstep o nL ini sc (.new x) pc lv st h ks with
          | some (pc', lv', st', h', ks') => xloop call sc μ o nL ini cod n pc' lv' st' h' ks'
          | none => none
      | i => match xstep o nL ini sc i pc lv st h ks with
        | some (pc', lv', st', h', ks') => xloop call sc μ o nL ini cod n pc' lv' st' h' ks'
        | none => none
    | _ => none
/-- a call, by the depth of calls; 'F' is the fuel of each -/
def xcall (F : Nat) (sc : Option (List Int32)) : Nat → Nat → List Value → xH → Nat → Option xO
  | 0, _, _, _, _ => none
  | d + 1, μ, as, h, ks => if (xcod μ = true ∨ xcow μ = true) ∧ (lg_sl as).length ≤ xml μ then xloop (xcall F sc d) sc μ (xmo μ) (xml μ) (xini μ) (xmc μ) F 0 (lv_args 0 as) [] h ks else none
end XO
