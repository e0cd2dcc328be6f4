/-! one instruction on numbers; what the lists say then -/
section YN
def ypu : Instr → Bool
  | .iconst _ => true
  | .bipush _ => true
  | .sipush _ => true
  | .lconst _ => true
  | .ldc _ => true
  | .ldc_w _ => true
  | .ldc2_w _ => true
  | .iadd => true
  | .isub => true
  | .imul => true
  | .idiv => true
  | .irem => true
  | .ineg => true
  | .iand => true
  | .ior => true
  | .ixor => true
  | .ishl => true
  | .ishr => true
  | .iushr => true
  | .ladd => true
  | .lmul => true
  | .lcmp => true
  | .i2l => true
  | .dup => true
  | .pop => true
  | .dup_x1 => true
  | .dup2 => true
  | .goto _ => true
  | .tableswitch _ _ _ _ => true
  | .lookupswitch _ _ => true
  | _ => false
/-- a number may be put there -/
def yok (ci j : Nat) (v : Int32) : Bool := match xtyf ci j with
  | .int => true
  | .boolean => decide (v = 0) || decide (v = 1)
  | _ => false
def yfin (ci j : Nat) : Bool := match xcl[ci]? with
  | some (_, T, _) => (T j).2.2.2
  | none => true
def ystep (o nL : Nat) (i : Instr) (pc : Nat) (lv : xL) (st : List Value) (s : yS) : Option (Nat × xL × List Value × yS) := match i with
  | .iload_n k => match xlk k lv with | some (.int x) => some (pc + 1, lv, .int x :: st, s) | _ => none
  | .iload k => match xlk k lv with | some (.int x) => some (pc + 2, lv, .int x :: st, s) | _ => none
  | .lload_n k => match xlk k lv with | some (.long x) => some (pc + 1, lv, .long x :: st, s) | _ => none
  | .lload k => match xlk k lv with | some (.long x) => some (pc + 2, lv, .long x :: st, s) | _ => none
  | .aload_n k => match xlk k lv with | some (.ref x) => some (pc + 1, lv, .ref x :: st, s) | _ => none
  | .aload k => match xlk k lv with | some (.ref x) => some (pc + 2, lv, .ref x :: st, s) | _ => none
  | .istore_n k => match st with | .int x :: st => bif Nat.blt k nL then some (pc + 1, ys1 k (.int x) lv, st, s) else none | _ => none
  | .istore k => match st with | .int x :: st => bif Nat.blt k nL then some (pc + 2, ys1 k (.int x) lv, st, s) else none | _ => none
  | .lstore_n k => match st with | .long x :: st => bif Nat.blt (k + 1) nL then some (pc + 1, ys2 k (.long x) lv, st, s) else none | _ => none
  | .lstore k => match st with | .long x :: st => bif Nat.blt (k + 1) nL then some (pc + 2, ys2 k (.long x) lv, st, s) else none | _ => none
  | .iinc k n => match xlk k lv with | some (.int x) => (bif Nat.blt k nL then some (pc + 3, ys1 k (.int (x + Int32.ofInt n)) lv, st, s) else none) | _ => none
  | .getfield x => match st with
    | .ref k :: st => match xfnd (xfldT o) x with
      | some (ci, j, _, _) => bif Nat.beq (ykd k) ci && (Nat.blt j (yln k) && Nat.blt k 74) then some (pc + 3, lv, ysl s k j :: st, s) else none
      | none => none
    | _ => none
  | .putfield x => match st with
    | .int v :: .ref k :: st => match xfnd (xfldT o) x with
      | some (ci, j, _, _) => bif Nat.beq (ykd k) ci && (Nat.blt j (yln k) && (Nat.blt k 74 && (Nat.beq (yfr k j) 0 && (yok ci j v && !yfin ci j)))) then some (pc + 3, lv, st, yup s k j v) else none
      | none => none
    | _ => none
  | .arraylength => match st with
    | .ref k :: st => bif Nat.beq (ykd k) 100 && Nat.blt k 74 then some (pc + 1, lv, .int (Int32.ofNat (yln k)) :: st, s) else none
    | _ => none
  | i => bif ypu i then (match xstep o nL false none i pc [] st [] 0 with | some (pc', _, st', _, _) => some (pc', lv, st', s) | none => none) else none
theorem ypu_ok {o nL : Nat} {ini : Bool} {sc : Option (List Int32)} {i : Instr} {pc pc' : Nat} {lv' xlv : xL} {st st' : List Value} {h h' : xH} {ks ks' : Nat} (ad : Nat → Nat) (hp : ypu i = true) (he : xstep o nL false none i pc [] st [] 0 = some (pc', lv', st', h', ks')) :
    xstep o nL ini sc i pc xlv (st.map (xv ad)) h ks = some (pc', xlv, st'.map (xv ad), h, ks) := by
  cases i <;> simp only [ypu, Bool.false_eq_true] at hp
  all_goals (simp only [xstep, Bool.cond_eq_ite] at he ⊢)
  all_goals (repeat' split at he)
  all_goals first
    | (cases he; done)
    | (cases he; simp only [List.map_cons, xv_cat, *, reduceIte]; done)
    | (cases he; simp_all only [List.map_cons, List.map_nil, xv, xv_cat, if_true, if_false, reduceIte]; done)
    | (cases he; simp_all [xv, xv_cat]; done)
theorem yok_ok {ci j : Nat} {v : Int32} (h : yok ci j v = true) : narrow (xtyf ci j) (.int v) = .int v ∧ fits (xtyf ci j) (.int v) = true := by
  unfold yok at h
  split at h
  · rename_i e
    rw [e]
    exact ⟨rfl, rfl⟩
  · rename_i e
    rw [e]
    rw [Bool.or_eq_true, decide_eq_true_eq, decide_eq_true_eq] at h
    rcases h with rfl | rfl <;> exact ⟨rfl, rfl⟩
  · cases h
theorem xlk_len {k : Nat} {b : Nat} {lv xlv : xL} {v : Value} (hs : ySub b lv xlv) (h : xlk k lv = some v) : xlk k xlv = some (xv (yad b) v) := hs k v h
set_option maxHeartbeats 1000000 in
theorem ystep_ok {o nL : Nat} {ini : Bool} {sc : Option (List Int32)} {i : Instr} {pc pc' : Nat} {lv lv' xlv : xL} {st st' : List Value} {s s' : yS} {h : xH} {b ks : Nat} (hB : yB h b) (hs : ySub b lv xlv) (he : ystep o nL i pc lv st s = some (pc', lv', st', s')) :
    xpl i = true ∧ ∃ xlv', xstep o nL ini sc i pc xlv (st.map (xv (yad b))) (yput h b s) ks = some (pc', xlv', st'.map (xv (yad b)), yput h b s', ks) ∧ ySub b lv' xlv' := by
  have hload : ∀ {k : Nat} {v : Value}, xlk k lv = some v → xlk k xlv = some (xv (yad b) v) := fun {k v} q => hs k v q
  have hblt : ∀ {a c : Nat}, Nat.blt a c = true → a < c := fun q => Nat.le_of_ble_eq_true q
  unfold ystep at he
  split at he
  case h_1 =>
    split at he
    · rename_i hk; cases he
      refine ⟨rfl, xlv, ?_, hs⟩
      unfold xstep; dsimp only; rw [hload hk]; rfl
    · cases he
  case h_2 =>
    split at he
    · rename_i hk; cases he
      refine ⟨rfl, xlv, ?_, hs⟩
      unfold xstep; dsimp only; rw [hload hk]; rfl
    · cases he
  case h_3 =>
    split at he
    · rename_i hk; cases he
      refine ⟨rfl, xlv, ?_, hs⟩
      unfold xstep; dsimp only; rw [hload hk]; rfl
    · cases he
  case h_4 =>
    split at he
    · rename_i hk; cases he
      refine ⟨rfl, xlv, ?_, hs⟩
      unfold xstep; dsimp only; rw [hload hk]; rfl
    · cases he
  case h_5 =>
    split at he
    · rename_i hk; cases he
      refine ⟨rfl, xlv, ?_, hs⟩
      unfold xstep; dsimp only; rw [hload hk]; rfl
    · cases he
  case h_6 =>
    split at he
    · rename_i hk; cases he
      refine ⟨rfl, xlv, ?_, hs⟩
      unfold xstep; dsimp only; rw [hload hk]; rfl
    · cases he
  case h_7 =>
    split at he
    · rename_i x st1
      rw [Bool.cond_eq_ite] at he
      split at he
      · rename_i hb
        cases he
        refine ⟨rfl, _, ?_, hs.st1⟩
        simp only [xstep, List.map_cons, xv, if_pos (hblt hb)]
      · cases he
    · cases he
  case h_8 =>
    split at he
    · rename_i x st1
      rw [Bool.cond_eq_ite] at he
      split at he
      · rename_i hb
        cases he
        refine ⟨rfl, _, ?_, hs.st1⟩
        simp only [xstep, List.map_cons, xv, if_pos (hblt hb)]
      · cases he
    · cases he
  case h_9 =>
    split at he
    · rename_i x st1
      rw [Bool.cond_eq_ite] at he
      split at he
      · rename_i hb
        cases he
        refine ⟨rfl, _, ?_, hs.st2⟩
        simp only [xstep, List.map_cons, xv, if_pos (hblt hb)]
      · cases he
    · cases he
  case h_10 =>
    split at he
    · rename_i x st1
      rw [Bool.cond_eq_ite] at he
      split at he
      · rename_i hb
        cases he
        refine ⟨rfl, _, ?_, hs.st2⟩
        simp only [xstep, List.map_cons, xv, if_pos (hblt hb)]
      · cases he
    · cases he
  case h_11 =>
    split at he
    · rename_i x hk
      rw [Bool.cond_eq_ite] at he
      split at he
      · rename_i hb
        cases he
        refine ⟨rfl, _, ?_, hs.st1⟩
        have e := hload hk
        simp only [xv] at e
        simp only [xstep, e, xv, if_pos (hblt hb)]
      · cases he
    · cases he
  case h_12 =>
    split at he
    · rename_i x k st1
      split at he
      · rename_i ci j kd pw hf
        cases hb : (Nat.beq (ykd k) ci && (Nat.blt j (yln k) && Nat.blt k 74)) with
        | false => rw [hb] at he; cases he
        | true =>
          rw [hb] at he; cases he
          rw [Bool.and_eq_true, Bool.and_eq_true] at hb
          refine ⟨rfl, xlv, ?_, hs⟩
          have e1 := Nat.eq_of_beq_eq_true hb.1
          have e2 := hblt hb.2.1
          have e3 := yput_get (s := s) hB (hblt hb.2.2)
          have e4 : (yce b s k).2[j]? = some (xv (yad b) (ysl s k j)) := by
            simp [yce, e2]
          simp only [xstep, List.map_cons, xv, yad, hf, e3]
          show (if ykd k = ci then _ else _) = _
          rw [if_pos e1, e4]
          rfl
      · cases he
    · cases he
  case h_13 =>
    split at he
    · rename_i x v k st1
      split at he
      · rename_i ci j kd pw hf
        cases hb : (Nat.beq (ykd k) ci && (Nat.blt j (yln k) && (Nat.blt k 74 && (Nat.beq (yfr k j) 0 && (yok ci j v && !yfin ci j))))) with
        | false => rw [hb] at he; cases he
        | true =>
          rw [hb] at he; cases he
          simp only [Bool.and_eq_true, Bool.not_eq_true'] at hb
          obtain ⟨c1, c2, c3, c4, c5, c6⟩ := hb
          refine ⟨rfl, xlv, ?_, hs⟩
          have e1 := Nat.eq_of_beq_eq_true c1
          have e2 := hblt c2
          have e3 := yput_get (s := s) hB (hblt c3)
          have e5 := Nat.eq_of_beq_eq_true c4
          obtain ⟨n1, n2⟩ := yok_ok c5
          unfold yfin at c6
          split at c6
          · rename_i C T N hc
            simp only [xstep, List.map_cons, xv, yad, hf, e3]
            show (match xcl[ci]? with | some (_, T, _) => _ | none => none) = _
            rw [hc]
            dsimp only
            rw [if_pos ⟨e1, by simp [yce, e2], n1, n2, Or.inl c6⟩, ← yput_set hB (hblt c3) e2 e5]
            rfl
          · cases c6
      · cases he
    · cases he
  case h_14 =>
    split at he
    · rename_i k st1
      cases hb : (Nat.beq (ykd k) 100 && Nat.blt k 74) with
      | false => rw [hb] at he; cases he
      | true =>
        rw [hb] at he; cases he
        rw [Bool.and_eq_true] at hb
        refine ⟨rfl, xlv, ?_, hs⟩
        have e3 := yput_get (s := s) hB (hblt hb.2)
        have e1 : ykd k = 100 := Nat.eq_of_beq_eq_true hb.1
        simp only [xstep, List.map_cons, xv, yad, e3]
        show (if 100 ≤ ykd k ∧ ykd k < 106 then _ else _) = _
        rw [if_pos (by omega)]
        simp [yce]
    · cases he
  case h_15 =>
    cases hb : ypu i with
    | false => rw [hb] at he; cases he
    | true =>
      rw [hb] at he
      replace he : (match xstep o nL false none i pc [] st [] 0 with | some (pc', _, st', _, _) => some (pc', lv, st', s) | none => none) = some (pc', lv', st', s') := he
      split at he
      · rename_i hx
        cases he
        refine ⟨?_, xlv, ypu_ok (yad b) hb hx, hs⟩
        cases i <;> first | rfl | cases hb
      · cases he
end YN
