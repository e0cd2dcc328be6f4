/-! one object's cells as numbers, by place -/
section YM
abbrev yS : Type := Nat → Nat → Int32
def ykn : List (Nat × Nat) := [(9, 9), (0, 5), (5, 1), (100, 10), (5, 1), (100, 10), (2, 2), (100, 100), (2, 2), (100, 50), (3, 3), (5, 1), (100, 7), (5, 1), (100, 7), (1, 7), (5, 1), (100, 10), (4, 7), (2, 2), (100, 35), (5, 1), (100, 10), (5, 1), (100, 5), (7, 4), (2, 2), (100, 280), (5, 1), (100, 5), (6, 11), (2, 2), (100, 40), (2, 2), (100, 40), (5, 1), (100, 8), (5, 1), (100, 8), (5, 1), (100, 8), (8, 3), (2, 2), (100, 360), (2, 2), (100, 360), (5, 1), (100, 5), (5, 1), (100, 8), (5, 1), (100, 8), (6, 11), (2, 2), (100, 40), (2, 2), (100, 40), (5, 1), (100, 8), (5, 1), (100, 8), (5, 1), (100, 8), (8, 3), (2, 2), (100, 360), (2, 2), (100, 360), (5, 1), (100, 5), (5, 1), (100, 8), (5, 1), (100, 8)]
def yfq : Nat → Nat → Nat
  | 0, 0 => 1
  | 0, 1 => 10
  | 0, 2 => 15
  | 0, 3 => 18
  | 0, 4 => 25
  | 0, 5 => 30
  | 0, 6 => 52
  | 1, 1 => 2
  | 1, 2 => 4
  | 1, 3 => 6
  | 1, 4 => 8
  | 2, 0 => 3
  | 4, 0 => 5
  | 6, 0 => 1010
  | 6, 1 => 7
  | 8, 0 => 1005
  | 8, 1 => 9
  | 10, 1 => 11
  | 10, 2 => 13
  | 11, 0 => 12
  | 13, 0 => 14
  | 15, 6 => 16
  | 16, 0 => 17
  | 18, 4 => 19
  | 18, 5 => 21
  | 18, 6 => 23
  | 19, 0 => 1005
  | 19, 1 => 20
  | 21, 0 => 22
  | 23, 0 => 24
  | 25, 2 => 26
  | 25, 3 => 28
  | 26, 0 => 1008
  | 26, 1 => 27
  | 28, 0 => 29
  | 30, 2 => 31
  | 30, 3 => 33
  | 30, 4 => 35
  | 30, 5 => 37
  | 30, 6 => 39
  | 30, 7 => 41
  | 30, 8 => 46
  | 30, 9 => 48
  | 30, 10 => 50
  | 31, 0 => 1008
  | 31, 1 => 32
  | 33, 0 => 1008
  | 33, 1 => 34
  | 35, 0 => 36
  | 37, 0 => 38
  | 39, 0 => 40
  | 41, 1 => 42
  | 41, 2 => 44
  | 42, 0 => 1009
  | 42, 1 => 43
  | 44, 0 => 1009
  | 44, 1 => 45
  | 46, 0 => 47
  | 48, 0 => 49
  | 50, 0 => 51
  | 52, 2 => 53
  | 52, 3 => 55
  | 52, 4 => 57
  | 52, 5 => 59
  | 52, 6 => 61
  | 52, 7 => 63
  | 52, 8 => 68
  | 52, 9 => 70
  | 52, 10 => 72
  | 53, 0 => 1008
  | 53, 1 => 54
  | 55, 0 => 1008
  | 55, 1 => 56
  | 57, 0 => 58
  | 59, 0 => 60
  | 61, 0 => 62
  | 63, 1 => 64
  | 63, 2 => 66
  | 64, 0 => 1009
  | 64, 1 => 65
  | 66, 0 => 1009
  | 66, 1 => 67
  | 68, 0 => 69
  | 70, 0 => 71
  | 72, 0 => 73
  | _, _ => 0
def ykd (k : Nat) : Nat := match ykn[k]? with
  | some q => q.1
  | none => 999
def yln (k : Nat) : Nat := match ykn[k]? with
  | some q => q.2
  | none => 0
/-- what a place holds: 0: a number; below 1000: the cell of that place; else a fixed number -/
def yfr (k j : Nat) : Nat := bif Nat.beq (ykd k) 100 then 0 else yfq k j
def ysl (s : yS) (k j : Nat) : Value := match yfr k j with
  | 0 => .int (s k j)
  | d + 1 => bif Nat.ble 1000 (d + 1) then .int (Int32.ofNat (d + 1 - 1000)) else .ref (d + 1)
def yad (b : Nat) : Nat → Nat := fun k => b + k
def yce (b : Nat) (s : yS) (k : Nat) : xE := (ykd k, (List.range (yln k)).map (fun j => xv (yad b) (ysl s k j)))
def yput (h : xH) (b : Nat) (s : yS) : xH := (List.range h.length).map (fun i => if b ≤ i + 4 ∧ i + 4 < b + 74 then yce b s (i + 4 - b) else h.getD i (0, []))
def yB (h : xH) (b : Nat) : Prop := 4 ≤ b ∧ b + 74 ≤ h.length + 4
def yup (s : yS) (k j : Nat) (v : Int32) : yS := fun k' j' => if k' = k ∧ j' = j then v else s k' j'
theorem yput_len (h : xH) (b : Nat) (s : yS) : (yput h b s).length = h.length := by simp [yput]
theorem yput_at {h : xH} {i : Nat} (b : Nat) (s : yS) (hi : i < h.length) : (yput h b s)[i]? = some (if b ≤ i + 4 ∧ i + 4 < b + 74 then yce b s (i + 4 - b) else h.getD i (0, [])) := by
  simp [yput, hi]
theorem xget_hi {h : xH} {a : Nat} (ha : 4 ≤ a) : xget h a = h[a - 4]? := by
  unfold xget
  rw [Nat.ble_eq_true_of_le ha]
  rfl
theorem xget_lo {h : xH} {a : Nat} (ha : ¬ 4 ≤ a) : xget h a = none := by
  unfold xget
  cases hb : Nat.ble 4 a with
  | true => exact absurd (Nat.le_of_ble_eq_true hb) ha
  | false => rfl
theorem yput_get {h : xH} {b k : Nat} {s : yS} (hB : yB h b) (hk : k < 74) : xget (yput h b s) (b + k) = some (yce b s k) := by
  obtain ⟨h1, h2⟩ := hB
  rw [xget_hi (by omega), yput_at b s (by omega), if_pos (by omega)]
  congr 2
  omega
theorem yput_out {h : xH} {b a : Nat} (s : yS) (ha : ¬ (b ≤ a ∧ a < b + 74)) : xget (yput h b s) a = xget h a := by
  by_cases h4 : 4 ≤ a
  · rw [xget_hi h4, xget_hi h4]
    by_cases hl : a - 4 < h.length
    · rw [yput_at b s hl, if_neg (by omega), List.getD_eq_getElem?_getD, List.getElem?_eq_getElem hl]
      rfl
    · rw [List.getElem?_eq_none (by rw [yput_len]; omega), List.getElem?_eq_none (by omega)]
  · rw [xget_lo h4, xget_lo h4]
theorem yce_up {b : Nat} {s : yS} {k j : Nat} {v : Int32} (hj : j < yln k) (hf : yfr k j = 0) : (ykd k, (yce b s k).2.set j (.int v)) = yce b (yup s k j v) k := by
  unfold yce
  congr 1
  refine List.ext_getElem? fun i => ?_
  rw [List.getElem?_set]
  by_cases hij : j = i
  · subst hij
    simp only [List.length_map, List.length_range, hj, if_true, List.getElem?_map, List.getElem?_range hj, Option.map_some]
    unfold ysl
    rw [hf]
    simp [yup, xv]
  · rw [if_neg hij]
    simp only [List.getElem?_map]
    by_cases hi : i < yln k
    · simp only [List.getElem?_range hi, Option.map_some]
      congr 2
      unfold ysl
      have e : yup s k j v k i = s k i := by
        unfold yup
        rw [if_neg (fun q => hij q.2.symm)]
      rw [e]
    · rw [List.getElem?_eq_none (by simpa using hi)]
      rfl
theorem yce_ne {b : Nat} {s : yS} {k k' j : Nat} {v : Int32} (hk : k' ≠ k) : yce b (yup s k j v) k' = yce b s k' := by
  unfold yce
  congr 1
  refine List.map_congr_left fun i _ => ?_
  unfold ysl
  have e : yup s k j v k' i = s k' i := by
    unfold yup
    rw [if_neg (fun q => hk q.1)]
  rw [e]
theorem yput_set {h : xH} {b k j : Nat} {s : yS} {v : Int32} (hB : yB h b) (hk : k < 74) (hj : j < yln k) (hf : yfr k j = 0) : xset (yput h b s) (b + k) (ykd k, (yce b s k).2.set j (.int v)) = yput h b (yup s k j v) := by
  obtain ⟨h1, h2⟩ := hB
  rw [yce_up hj hf]
  unfold xset
  refine List.ext_getElem? fun i => ?_
  rw [List.getElem?_set]
  by_cases hi : i < h.length
  · by_cases hik : b + k - 4 = i
    · rw [if_pos hik, if_pos (by rw [yput_len]; omega), yput_at b _ hi, if_pos (by omega)]
      congr 2
      omega
    · rw [if_neg hik, yput_at b _ hi, yput_at b _ hi]
      by_cases hr : b ≤ i + 4 ∧ i + 4 < b + 74
      · rw [if_pos hr, if_pos hr, yce_ne (by omega)]
      · rw [if_neg hr, if_neg hr]
  · rw [if_neg (by omega), List.getElem?_eq_none (by rw [yput_len]; omega), List.getElem?_eq_none (by rw [yput_len]; omega)]
theorem yput_put (h : xH) (b : Nat) (s s' : yS) : yput (yput h b s) b s' = yput h b s' := by
  refine List.ext_getElem? fun i => ?_
  by_cases hi : i < h.length
  · rw [yput_at b s' (by rw [yput_len]; exact hi), yput_at b s' hi]
    by_cases hr : b ≤ i + 4 ∧ i + 4 < b + 74
    · rw [if_pos hr, if_pos hr]
    · rw [if_neg hr, if_neg hr, List.getD_eq_getElem?_getD, yput_at b s hi, if_neg hr]
      rfl
  · rw [List.getElem?_eq_none (by rw [yput_len, yput_len]; omega), List.getElem?_eq_none (by rw [yput_len]; omega)]
-- locals
def yc2 : Value → Bool
  | .long _ => true
  | .double _ => true
  | _ => false
theorem yc2_cat (v : Value) : (v.category == 2) = yc2 v := by cases v <;> rfl
def yins (i : Nat) (v : Value) : xL → xL
  | [] => [(i, v)]
  | (j, w) :: r => bif Nat.beq i j then (i, v) :: r else bif Nat.blt i j then (i, v) :: (j, w) :: r else (j, w) :: yins i v r
theorem xlk_ins (i k : Nat) (v : Value) : ∀ l : xL, xlk k (yins i v l) = bif Nat.beq i k then some v else xlk k l
  | [] => by
    unfold yins xlk
    rfl
  | (j, w) :: r => by
    unfold yins
    cases h1 : Nat.beq i j with
    | true =>
      have e := Nat.eq_of_beq_eq_true h1
      subst e
      show xlk k ((i, v) :: r) = _
      unfold xlk
      cases h3 : Nat.beq i k <;> rfl
    | false =>
      cases h2 : Nat.blt i j with
      | true =>
        show xlk k ((i, v) :: (j, w) :: r) = _
        rw [xlk]
      | false =>
        show xlk k ((j, w) :: yins i v r) = _
        rw [xlk, xlk_ins i k v r, xlk]
        cases h3 : Nat.beq j k with
        | true =>
          have e := Nat.eq_of_beq_eq_true h3
          subst e
          rw [h1]
          rfl
        | false => rfl
def ydrop (p : Nat → Bool) : xL → xL
  | [] => []
  | (j, w) :: r => bif p j then ydrop p r else (j, w) :: ydrop p r
theorem xlk_drop {p : Nat → Bool} {k : Nat} : ∀ {l : xL} {v : Value}, xlk k (ydrop p l) = some v → p k = false ∧ xlk k l = some v
  | [], v, h => by cases h
  | (j, w) :: r, v, h => by
    unfold ydrop at h
    cases hp : p j with
    | true =>
      rw [hp] at h
      obtain ⟨a, b⟩ := xlk_drop (l := r) h
      refine ⟨a, ?_⟩
      unfold xlk
      cases hj : Nat.beq j k with
      | true =>
        have e := Nat.eq_of_beq_eq_true hj
        subst e
        rw [hp] at a
        cases a
      | false => exact b
    | false =>
      rw [hp] at h
      replace h : xlk k ((j, w) :: ydrop p r) = some v := h
      unfold xlk at h ⊢
      cases hj : Nat.beq j k with
      | true =>
        rw [hj] at h
        have e := Nat.eq_of_beq_eq_true hj
        subst e
        exact ⟨hp, h⟩
      | false =>
        rw [hj] at h
        exact xlk_drop (l := r) h
def ypv (i : Nat) (lv : xL) : Nat → Bool := fun k => Nat.beq (k + 1) i && (match xlk k lv with | some v => yc2 v | none => false)
def ys1 (i : Nat) (v : Value) (lv : xL) : xL := yins i v (ydrop (fun k => Nat.beq k i || ypv i lv k) lv)
def ys2 (i : Nat) (v : Value) (lv : xL) : xL := yins i v (ydrop (fun k => Nat.beq k i || (Nat.beq k (i + 1) || ypv i lv k)) lv)
def ySub (b : Nat) (lv xlv : xL) : Prop := ∀ (k : Nat) (v : Value), xlk k lv = some v → xlk k xlv = some (xv (yad b) v)
theorem xlk_filter {p : Nat × Value → Bool} {k : Nat} {w : Value} (hp : p (k, w) = true) : ∀ {l : xL}, xlk k l = some w → xlk k (l.filter p) = some w
  | [], h => by cases h
  | (j, u) :: r, h => by
    rw [List.filter_cons]
    unfold xlk at h
    cases hj : Nat.beq j k with
    | true =>
      rw [hj] at h
      have e := Nat.eq_of_beq_eq_true hj
      subst e
      cases h
      rw [if_pos hp]
      unfold xlk
      rw [hj]
      rfl
    | false =>
      rw [hj] at h
      split
      · unfold xlk
        rw [hj]
        exact xlk_filter hp h
      · exact xlk_filter hp h
theorem ySub.st1 {b i : Nat} {v : Value} {lv xlv : xL} (h : ySub b lv xlv) : ySub b (ys1 i v lv) (xs1 i (xv (yad b) v) xlv) := by
  intro k w hk
  unfold ys1 at hk
  rw [xlk_ins] at hk
  unfold xs1
  cases hi : Nat.beq i k with
  | true =>
    rw [hi] at hk
    cases hk
    unfold xlk
    rw [hi]
    rfl
  | false =>
    rw [hi] at hk
    obtain ⟨h1, h2⟩ := xlk_drop hk
    unfold xlk
    rw [hi]
    refine xlk_filter ?_ (h k w h2)
    have hne : ¬ k = i := fun e => by
      rw [e, Nat.beq_refl] at hi
      cases hi
    rw [Bool.or_eq_false_iff] at h1
    have h3 := h1.2
    unfold ypv at h3
    rw [h2] at h3
    dsimp only at h3 ⊢
    rw [xv_cat, yc2_cat, Bool.and_eq_true, Bool.not_eq_true', Bool.not_eq_true']
    refine ⟨by simpa using hne, ?_⟩
    by_cases e : k + 1 = i
    · rw [show Nat.beq (k + 1) i = true from by rw [e]; exact Nat.beq_refl i] at h3
      rw [show yc2 w = false from by simpa using h3]
      simp
    · simp [e]
theorem ySub.st2 {b i : Nat} {v : Value} {lv xlv : xL} (h : ySub b lv xlv) : ySub b (ys2 i v lv) (xs2 i (xv (yad b) v) xlv) := by
  intro k w hk
  unfold ys2 at hk
  rw [xlk_ins] at hk
  unfold xs2
  cases hi : Nat.beq i k with
  | true =>
    rw [hi] at hk
    cases hk
    unfold xlk
    rw [hi]
    rfl
  | false =>
    rw [hi] at hk
    obtain ⟨h1, h2⟩ := xlk_drop hk
    unfold xlk
    rw [hi]
    refine xlk_filter ?_ (h k w h2)
    have hne : ¬ k = i := fun e => by
      rw [e, Nat.beq_refl] at hi
      cases hi
    rw [Bool.or_eq_false_iff, Bool.or_eq_false_iff] at h1
    have h4 : ¬ k = i + 1 := fun e => by
      have := h1.2.1
      rw [e, Nat.beq_refl] at this
      cases this
    have h3 := h1.2.2
    unfold ypv at h3
    rw [h2] at h3
    dsimp only at h3 ⊢
    rw [xv_cat, yc2_cat, Bool.and_eq_true, Bool.and_eq_true, Bool.not_eq_true', Bool.not_eq_true', Bool.not_eq_true']
    refine ⟨by simpa using hne, by simpa using h4, ?_⟩
    by_cases e : k + 1 = i
    · rw [show Nat.beq (k + 1) i = true from by rw [e]; exact Nat.beq_refl i] at h3
      rw [show yc2 w = false from by simpa using h3]
      simp
    · simp [e]
def ysel (ks : List Nat) (lv : xL) : xL := ks.filterMap (fun k => match xlk k lv with | some v => some (k, v) | none => none)
theorem ysel_ok (lv : xL) {k : Nat} {v : Value} : ∀ {ks : List Nat}, xlk k (ysel ks lv) = some v → xlk k lv = some v
  | [], h => by cases h
  | j :: r, h => by
    unfold ysel at h
    rw [List.filterMap_cons] at h
    cases hj : xlk j lv with
    | none =>
      rw [hj] at h
      exact ysel_ok lv (ks := r) h
    | some u =>
      rw [hj] at h
      dsimp only at h
      unfold xlk at h
      cases hb : Nat.beq j k with
      | true =>
        rw [hb] at h
        have e := Nat.eq_of_beq_eq_true hb
        subst e
        rw [hj]
        exact h
      | false =>
        rw [hb] at h
        exact ysel_ok lv (ks := r) h
end YM
