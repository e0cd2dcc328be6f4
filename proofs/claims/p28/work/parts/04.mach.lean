/-! a machine on lists: what the bytecode does, on labels instead of addresses -/
section XM
/-- a cell: its kind (a class' number, or 100 and an array type's), what it holds -/
abbrev xE : Type := Nat × List Value
abbrev xH : Type := List xE
abbrev xL : Type := List (Nat × Value)
abbrev xC : Type := Nat × xL × List Value × xH × Nat
/-- where a label's cell lies: the first four are old things, the others new ones, one behind the other -/
def xad (old : Nat → Nat) (n0 k : Nat) : Nat := if k < 4 then old k else n0 + (k - 4)
def xv (ad : Nat → Nat) (v : Value) : Value := match v with
  | .ref k => .ref (ad k)
  | w => w
theorem xv_cat (ad : Nat → Nat) (v : Value) : (xv ad v).category = v.category := by cases v <;> rfl
def xm (ad : Nat → Nat) (lv : xL) : xL := lv.map (fun q => (q.1, xv ad q.2))
def xlk (i : Nat) : xL → Option Value
  | [] => none
  | (j, v) :: r => bif Nat.beq j i then some v else xlk i r
theorem xlk_mem {i : Nat} {v : Value} : ∀ {lv : xL}, xlk i lv = some v → (i, v) ∈ lv
  | [], h => by cases h
  | (j, w) :: r, h => by
    unfold xlk at h
    cases hb : Nat.beq j i with
    | true =>
      rw [hb] at h
      have e : j = i := Nat.eq_of_beq_eq_true hb
      subst e
      cases h
      exact List.mem_cons_self
    | false =>
      rw [hb] at h
      exact List.mem_cons_of_mem _ (xlk_mem h)
theorem xlk_has {ls : Array Slot} {nL i : Nat} {v : Value} {lv : xL} {ad : Nat → Nat} (h : xlk i lv = some v) (hl : lv_has ls nL (xm ad lv)) : ls[i]? = some (.val (xv ad v)) :=
  hl.2.2 (i, xv ad v) (List.mem_map.mpr ⟨(i, v), xlk_mem h, rfl⟩)
theorem xlk_at {i : Nat} {v : Value} {lv : xL} {ad : Nat → Nat} (h : xlk i lv = some v) : ∃ k : Nat, (xm ad lv)[k]? = some (i, xv ad v) :=
  List.getElem?_of_mem (List.mem_map.mpr ⟨(i, v), xlk_mem h, rfl⟩)
def xs1 (i : Nat) (v : Value) (lv : xL) : xL := (i, v) :: lv.filter (fun q => !(q.1 == i) && !(q.1 + 1 == i && q.2.category == 2))
def xs2 (i : Nat) (v : Value) (lv : xL) : xL := (i, v) :: lv.filter (fun q => !(q.1 == i) && (!(q.1 == i + 1) && !(q.1 + 1 == i && q.2.category == 2)))
theorem xs1_m (i : Nat) (v : Value) (lv : xL) (ad : Nat → Nat) : (i, xv ad v) :: (xm ad lv).filter (fun q => !(q.1 == i) && !(q.1 + 1 == i && q.2.category == 2)) = xm ad (xs1 i v lv) := by
  simp only [xm, xs1, List.map_cons, List.filter_map, Function.comp_def, xv_cat]
theorem xs2_m (i : Nat) (v : Value) (lv : xL) (ad : Nat → Nat) : (i, xv ad v) :: (xm ad lv).filter (fun q => !(q.1 == i) && (!(q.1 == i + 1) && !(q.1 + 1 == i && q.2.category == 2))) = xm ad (xs2 i v lv) := by
  simp only [xm, xs2, List.map_cons, List.filter_map, Function.comp_def, xv_cat]
def xfnd {β : Type} : List (Nat × β) → Nat → Option β
  | [], _ => none
  | (j, b) :: r, i => bif Nat.beq j i then some b else xfnd r i
theorem xfnd_mem {β : Type} {i : Nat} {b : β} : ∀ {l : List (Nat × β)}, xfnd l i = some b → (i, b) ∈ l
  | [], h => by cases h
  | (j, w) :: r, h => by
    unfold xfnd at h
    cases hb : Nat.beq j i with
    | true =>
      rw [hb] at h
      have e : j = i := Nat.eq_of_beq_eq_true hb
      subst e
      cases h
      exact List.mem_cons_self
    | false =>
      rw [hb] at h
      exact List.mem_cons_of_mem _ (xfnd_mem h)
def xj (pc : Nat) (off : Int) : Option Nat := match (pc : Int) + off with
  | .ofNat t => some t
  | _ => none
theorem xj_eq {pc t : Nat} {off : Int} (h : xj pc off = some t) : (pc : Int) + off = (t : Int) := by
  unfold xj at h
  split at h
  · cases h; assumption
  · cases h
def xcmp : ClassFile.Cond → Int32 → Int32 → Bool
  | .eq, x, y => decide (x = y)
  | .ne, x, y => !decide (x = y)
  | .lt, x, y => decide (x < y)
  | .ge, x, y => decide (y ≤ x)
  | .gt, x, y => decide (y < x)
  | .le, x, y => decide (x ≤ y)
def xget (h : xH) (a : Nat) : Option xE := bif Nat.ble 4 a then h[a - 4]? else none
def xset (h : xH) (a : Nat) (e : xE) : xH := h.set (a - 4) e
def xtT : Nat → FieldType
  | 0 => .int
  | 1 => .int
  | 2 => .boolean
  | 3 => .array .int
  | 4 => .array (.array .int)
  | 5 => .array .boolean
  | _ => .object "java/lang/Object"
def xlen : Instr → Nat
  | .bipush _ => 2
  | .ldc _ => 2
  | .iload _ => 2
  | .lload _ => 2
  | .dload _ => 2
  | .aload _ => 2
  | .istore _ => 2
  | .lstore _ => 2
  | .dstore _ => 2
  | .astore _ => 2
  | .newarray _ => 2
  | .sipush _ => 3
  | .ldc_w _ => 3
  | .ldc2_w _ => 3
  | .iinc _ _ => 3
  | .if_icmp _ _ => 3
  | .ifCond _ _ => 3
  | .goto _ => 3
  | .ifnull _ => 3
  | .ifnonnull _ => 3
  | .getfield _ => 3
  | .putfield _ => 3
  | .getstatic _ => 3
  | .new _ => 3
  | .anewarray _ => 3
  | .checkcast _ => 3
  | .invokevirtual _ => 3
  | .invokespecial _ => 3
  | .invokestatic _ => 3
  | .multianewarray _ _ => 4
  | .invokeinterface _ _ => 5
  | .tableswitch _ _ _ _ => 0
  | .lookupswitch _ _ => 0
  | _ => 1
def xix (x : Int32) (n : Nat) : Option Nat := if x < 0 then none else if n ≤ x.toNatClampNeg then none else some x.toNatClampNeg
theorem xix_in {x : Int32} {n k : Nat} (h : xix x n = some k) : ¬ (x < 0 ∨ n ≤ x.toNatClampNeg) ∧ x.toNatClampNeg = k := by
  unfold xix at h
  split at h
  · cases h
  · split at h
    · cases h
    · cases h
      exact ⟨fun q => q.elim (by assumption) (by assumption), rfl⟩
def xati : ArrayType → Option Nat
  | .int => some 0
  | .boolean => some 2
  | _ => none
def xdv : Nat → Value
  | 0 => .int 0
  | 1 => .int 0
  | 2 => .int 0
  | _ => .null
end XM
