/-! rows and grids on numbers -/
section YG
variable {sd : Option (List Int32)} {μ pc : Nat} {lv : xL} {st : List Value} {s : yS} {Φ : Option Value → yS → Prop}
theorem xc_lt (x y : Int32) : xcmp .lt x y = decide (x.toInt < y.toInt) := by
  unfold xcmp
  exact decide_eq_decide.mpr Int32.lt_iff_toInt_lt
theorem xc_ge (x y : Int32) : xcmp .ge x y = decide (y.toInt ≤ x.toInt) := by
  unfold xcmp
  exact decide_eq_decide.mpr Int32.le_iff_toInt_le
theorem xc_gt (x y : Int32) : xcmp .gt x y = decide (y.toInt < x.toInt) := by
  unfold xcmp
  exact decide_eq_decide.mpr Int32.lt_iff_toInt_lt
theorem xc_le (x y : Int32) : xcmp .le x y = decide (x.toInt ≤ y.toInt) := by
  unfold xcmp
  exact decide_eq_decide.mpr Int32.le_iff_toInt_le
theorem xc_eq (x y : Int32) : xcmp .eq x y = decide (x = y) := rfl
theorem xc_ne (x y : Int32) : xcmp .ne x y = !decide (x = y) := rfl
theorem xT {p : Prop} [Decidable p] {b : Bool} (e : b = decide p) (h : b = true) : p := of_decide_eq_true (e ▸ h)
theorem xN {p : Prop} [Decidable p] {b : Bool} (e : b = decide p) (h : b = false) : ¬ p := of_decide_eq_false (e ▸ h)
theorem i32_to {n : Nat} (h : n < 2147483648) : (Int32.ofNat n).toInt = n := Int32.toInt_ofNat_of_lt h
theorem i32_s (n : Nat) : Int32.ofNat n + 1 = Int32.ofNat (n + 1) := by
  rw [Int32.ofNat_add]
  rfl
theorem yln_le (k : Nat) : yln k ≤ 360 := by
  have h : ykn.all (fun q => Nat.ble q.2 360) = true := by decide
  unfold yln
  cases hk : ykn[k]? with
  | none => exact Nat.zero_le _
  | some q => exact Nat.le_of_ble_eq_true (List.all_eq_true.mp h q (List.mem_of_getElem? hk))
theorem yp_gf {x ci j k : Nat} {r : Nat × Nat} {v : Value} {rest : List Value} (hi : (xmc μ)[pc]? = some (some (.getfield x))) (hf : xfnd (xfldT (xmo μ)) x = some (ci, j, r)) (hk : k < 74) (hd : ykd k = ci) (hj : j < yln k) (hv : ysl s k j = v) (kk : Yp sd μ (pc + 3) lv (v :: rest) s Φ) : Yp sd μ pc lv (.ref k :: rest) s Φ := by
  refine yp_step hi ?_ kk
  subst hd
  subst hv
  show (match xfnd (xfldT (xmo μ)) x with | some (ci, j, _, _) => _ | none => none) = _
  rw [hf]
  show (bif Nat.beq (ykd k) (ykd k) && (Nat.blt j (yln k) && Nat.blt k 74) then _ else none) = _
  rw [Nat.beq_refl, show Nat.blt j (yln k) = true from Nat.ble_eq_true_of_le hj, show Nat.blt k 74 = true from Nat.ble_eq_true_of_le hk]
  rfl
theorem yp_al {k : Nat} {rest : List Value} (hi : (xmc μ)[pc]? = some (some .arraylength)) (hk : k < 74) (hd : ykd k = 100) (kk : Yp sd μ (pc + 1) lv (.int (Int32.ofNat (yln k)) :: rest) s Φ) : Yp sd μ pc lv (.ref k :: rest) s Φ := by
  refine yp_step hi ?_ kk
  show (bif Nat.beq (ykd k) 100 && Nat.blt k 74 then _ else none) = _
  rw [hd, show Nat.blt k 74 = true from Nat.ble_eq_true_of_le hk]
  rfl
def yrw (k : Nat) : Bool := Nat.blt k 73 && (Nat.beq (ykd k) 5 && (Nat.beq (yln k) 1 && (Nat.beq (yfr k 0) (k + 1) && Nat.beq (ykd (k + 1)) 100)))
theorem yrw_ok {k : Nat} (h : yrw k = true) : k < 74 ∧ ykd k = 5 ∧ 0 < yln k ∧ (∀ s : yS, ysl s k 0 = .ref (k + 1)) ∧ k + 1 < 74 ∧ ykd (k + 1) = 100 := by
  unfold yrw at h
  simp only [Bool.and_eq_true] at h
  obtain ⟨a, b, c, d, e⟩ := h
  have a := Nat.le_of_ble_eq_true a
  have c := Nat.eq_of_beq_eq_true c
  have d := Nat.eq_of_beq_eq_true d
  refine ⟨by omega, Nat.eq_of_beq_eq_true b, by omega, fun s => ?_, by omega, Nat.eq_of_beq_eq_true e⟩
  unfold ysl
  rw [d]
  show (bif Nat.ble 1000 (k + 1) then _ else _) = _
  cases hb : Nat.ble 1000 (k + 1) with
  | true => have := Nat.le_of_ble_eq_true hb; omega
  | false => rfl
/-- in a row of n -/
abbrev yin (i : Int32) (n : Nat) : Prop := 0 ≤ i.toInt ∧ i.toInt < (n : Int)
def rget (s : yS) (k : Nat) (i : Int32) : Int32 := if yin i (yln (k + 1)) then s (k + 1) i.toInt.toNat else 0
def rset (s : yS) (k : Nat) (i v : Int32) : yS := if yin i (yln (k + 1)) then yup s (k + 1) i.toInt.toNat v else s
def rfill (s : yS) (k n : Nat) (v : Int32) : yS := fun k' j => if k' = k + 1 ∧ j < n then v else s k' j
theorem c_rget {k : Nat} {i : Int32} (hk : yrw k = true) (kk : Φ (some (.int (rget s k i))) s) : Yq sd 21 [.ref k, .int i] s Φ := by
  obtain ⟨h1, h2, h3, h4, h5, h6⟩ := yrw_ok hk
  have hn := yln_le (k + 1)
  refine Yq.of rfl (Nat.le_of_ble_eq_true rfl) ?_
  refine yp_run 1 (pc' := 1) (lv' := [(0, .ref k), (1, .int i)]) (st' := [.int i]) (s' := s) rfl ?_
  refine yp_if rfl rfl (fun hb => ?_) (fun hb => ?_)
  · have hb := xT (xc_lt _ _) hb
    rw [Int32.toInt_zero] at hb
    refine yp_run 1 (pc' := 23) (lv' := [(0, .ref k), (1, .int i)]) (st' := [.int 0]) (s' := s) rfl ?_
    refine yp_ri rfl rfl ?_
    unfold rget at kk
    rw [if_neg (by unfold yin; omega)] at kk
    exact kk
  · have hb := xN (xc_lt _ _) hb
    rw [Int32.toInt_zero] at hb
    refine yp_run 2 (pc' := 6) (lv' := [(0, .ref k), (1, .int i)]) (st' := [.ref k, .int i]) (s' := s) rfl ?_
    refine yp_gf rfl rfl h1 h2 h3 (h4 s) ?_
    refine yp_al rfl h5 h6 ?_
    refine yp_icmp rfl rfl (fun hc => ?_) (fun hc => ?_)
    · have hc := xT (xc_ge _ _) hc
      rw [i32_to (by omega)] at hc
      refine yp_run 1 (pc' := 23) (lv' := [(0, .ref k), (1, .int i)]) (st' := [.int 0]) (s' := s) rfl ?_
      refine yp_ri rfl rfl ?_
      unfold rget at kk
      rw [if_neg (by unfold yin; omega)] at kk
      exact kk
    · have hc := xN (xc_ge _ _) hc
      rw [i32_to (by omega)] at hc
      refine yp_run 1 (pc' := 14) (lv' := [(0, .ref k), (1, .int i)]) (st' := [.ref k]) (s' := s) rfl ?_
      refine yp_gf rfl rfl h1 h2 h3 (h4 s) ?_
      refine yp_run 1 (pc' := 18) (lv' := [(0, .ref k), (1, .int i)]) (st' := [.int i, .ref (k + 1)]) (s' := s) rfl ?_
      refine yp_iald rfl h5 h6 (by omega) (by omega) ?_
      refine yp_run 1 (pc' := 23) (lv' := [(0, .ref k), (1, .int i)]) (st' := [.int (s (k + 1) i.toInt.toNat)]) (s' := s) rfl ?_
      refine yp_ri rfl rfl ?_
      unfold rget at kk
      rw [if_pos (by unfold yin; omega)] at kk
      exact kk
theorem c_rset {k : Nat} {i v : Int32} (hk : yrw k = true) (kk : Φ none (rset s k i v)) : Yq sd 24 [.ref k, .int i, .int v] s Φ := by
  obtain ⟨h1, h2, h3, h4, h5, h6⟩ := yrw_ok hk
  have hn := yln_le (k + 1)
  refine Yq.of rfl (Nat.le_of_ble_eq_true rfl) ?_
  refine yp_run 1 (pc' := 1) (lv' := [(0, .ref k), (1, .int i), (2, .int v)]) (st' := [.int i]) (s' := s) rfl ?_
  refine yp_if rfl rfl (fun hb => ?_) (fun hb => ?_)
  · have hb := xT (xc_lt _ _) hb
    rw [Int32.toInt_zero] at hb
    refine yp_rv rfl rfl ?_
    unfold rset at kk
    rw [if_neg (by unfold yin; omega)] at kk
    exact kk
  · have hb := xN (xc_lt _ _) hb
    rw [Int32.toInt_zero] at hb
    refine yp_run 2 (pc' := 6) (lv' := [(0, .ref k), (1, .int i), (2, .int v)]) (st' := [.ref k, .int i]) (s' := s) rfl ?_
    refine yp_gf rfl rfl h1 h2 h3 (h4 s) ?_
    refine yp_al rfl h5 h6 ?_
    refine yp_icmp rfl rfl (fun hc => ?_) (fun hc => ?_)
    · have hc := xT (xc_ge _ _) hc
      rw [i32_to (by omega)] at hc
      refine yp_rv rfl rfl ?_
      unfold rset at kk
      rw [if_neg (by unfold yin; omega)] at kk
      exact kk
    · have hc := xN (xc_ge _ _) hc
      rw [i32_to (by omega)] at hc
      refine yp_run 1 (pc' := 14) (lv' := [(0, .ref k), (1, .int i), (2, .int v)]) (st' := [.ref k]) (s' := s) rfl ?_
      refine yp_gf rfl rfl h1 h2 h3 (h4 s) ?_
      refine yp_run 2 (pc' := 19) (lv' := [(0, .ref k), (1, .int i), (2, .int v)]) (st' := [.int v, .int i, .ref (k + 1)]) (s' := s) rfl ?_
      refine yp_iast rfl h5 h6 (by omega) (by omega) ?_
      refine yp_rv rfl rfl ?_
      unfold rset at kk
      rw [if_pos (by unfold yin; omega)] at kk
      exact kk
theorem c_radd {k : Nat} {i v : Int32} (hk : yrw k = true) (kk : Φ none (rset s k i (rget s k i + v))) : Yq sd 14 [.ref k, .int i, .int v] s Φ := by
  obtain ⟨h1, h2, h3, h4, h5, h6⟩ := yrw_ok hk
  have hn := yln_le (k + 1)
  refine Yq.of rfl (Nat.le_of_ble_eq_true rfl) ?_
  refine yp_run 1 (pc' := 1) (lv' := [(0, .ref k), (1, .int i), (2, .int v)]) (st' := [.int i]) (s' := s) rfl ?_
  refine yp_if rfl rfl (fun hb => ?_) (fun hb => ?_)
  · have hb := xT (xc_lt _ _) hb
    rw [Int32.toInt_zero] at hb
    refine yp_rv rfl rfl ?_
    unfold rset at kk
    rw [if_neg (by unfold yin; omega)] at kk
    exact kk
  · have hb := xN (xc_lt _ _) hb
    rw [Int32.toInt_zero] at hb
    refine yp_run 2 (pc' := 6) (lv' := [(0, .ref k), (1, .int i), (2, .int v)]) (st' := [.ref k, .int i]) (s' := s) rfl ?_
    refine yp_gf rfl rfl h1 h2 h3 (h4 s) ?_
    refine yp_al rfl h5 h6 ?_
    refine yp_icmp rfl rfl (fun hc => ?_) (fun hc => ?_)
    · have hc := xT (xc_ge _ _) hc
      rw [i32_to (by omega)] at hc
      refine yp_rv rfl rfl ?_
      unfold rset at kk
      rw [if_neg (by unfold yin; omega)] at kk
      exact kk
    · have hc := xN (xc_ge _ _) hc
      rw [i32_to (by omega)] at hc
      refine yp_run 1 (pc' := 14) (lv' := [(0, .ref k), (1, .int i), (2, .int v)]) (st' := [.ref k]) (s' := s) rfl ?_
      refine yp_gf rfl rfl h1 h2 h3 (h4 s) ?_
      refine yp_run 2 (pc' := 19) (lv' := [(0, .ref k), (1, .int i), (2, .int v)]) (st' := [.int i, .ref (k + 1), .int i, .ref (k + 1)]) (s' := s) rfl ?_
      refine yp_iald rfl h5 h6 (by omega) (by omega) ?_
      refine yp_run 2 (pc' := 22) (lv' := [(0, .ref k), (1, .int i), (2, .int v)]) (st' := [.int (s (k + 1) i.toInt.toNat + v), .int i, .ref (k + 1)]) (s' := s) rfl ?_
      refine yp_iast rfl h5 h6 (by omega) (by omega) ?_
      refine yp_rv rfl rfl ?_
      unfold rset rget at kk
      rw [if_pos (by unfold yin; omega), if_pos (by unfold yin; omega)] at kk
      exact kk
theorem yup_fill (s : yS) (k n : Nat) (v : Int32) : yup (rfill s k n v) (k + 1) n v = rfill s k (n + 1) v := by
  funext k' j
  unfold yup rfill
  by_cases h1 : k' = k + 1
  · by_cases h2 : j = n
    · rw [if_pos ⟨h1, h2⟩, if_pos ⟨h1, by omega⟩]
    · rw [if_neg (fun q => h2 q.2)]
      by_cases h3 : j < n
      · rw [if_pos ⟨h1, h3⟩, if_pos ⟨h1, by omega⟩]
      · rw [if_neg (fun q => h3 q.2), if_neg (fun q => by omega)]
  · rw [if_neg (fun q => h1 q.1), if_neg (fun q => h1 q.1), if_neg (fun q => h1 q.1)]
theorem rfill_0 (s : yS) (k : Nat) (v : Int32) : rfill s k 0 v = s := by
  funext k' j
  unfold rfill
  rw [if_neg (fun q => by omega)]
theorem l_rfill {k : Nat} {v : Int32} (hk : yrw k = true) (kk : Φ none (rfill s k (yln (k + 1)) v)) : ∀ (m i : Nat), i + m = yln (k + 1) → Yp sd 11 2 [(0, .ref k), (1, .int v), (2, .int (Int32.ofNat i))] [] (rfill s k i v) Φ := by
  obtain ⟨h1, h2, h3, h4, h5, h6⟩ := yrw_ok hk
  have hn := yln_le (k + 1)
  intro m
  induction m with
  | zero =>
    intro i hi
    refine yp_run 2 (pc' := 4) (lv' := [(0, .ref k), (1, .int v), (2, .int (Int32.ofNat i))]) (st' := [.ref k, .int (Int32.ofNat i)]) (s' := rfill s k i v) rfl ?_
    refine yp_gf rfl rfl h1 h2 h3 (h4 _) ?_
    refine yp_al rfl h5 h6 ?_
    refine yp_icmp rfl rfl (fun hc => ?_) (fun hc => ?_)
    · refine yp_rv rfl rfl ?_
      rw [show i = yln (k + 1) by omega]
      exact kk
    · have hc := xN (xc_ge _ _) hc
      rw [i32_to (by omega), i32_to (by omega)] at hc
      omega
  | succ m ih =>
    intro i hi
    refine yp_run 2 (pc' := 4) (lv' := [(0, .ref k), (1, .int v), (2, .int (Int32.ofNat i))]) (st' := [.ref k, .int (Int32.ofNat i)]) (s' := rfill s k i v) rfl ?_
    refine yp_gf rfl rfl h1 h2 h3 (h4 _) ?_
    refine yp_al rfl h5 h6 ?_
    refine yp_icmp rfl rfl (fun hc => ?_) (fun hc => ?_)
    · have hc := xT (xc_ge _ _) hc
      rw [i32_to (by omega), i32_to (by omega)] at hc
      omega
    · have e := i32_to (n := i) (by omega)
      refine yp_run 1 (pc' := 12) (lv' := [(0, .ref k), (1, .int v), (2, .int (Int32.ofNat i))]) (st' := [.ref k]) (s' := rfill s k i v) rfl ?_
      refine yp_gf rfl rfl h1 h2 h3 (h4 _) ?_
      refine yp_run 2 (pc' := 17) (lv' := [(0, .ref k), (1, .int v), (2, .int (Int32.ofNat i))]) (st' := [.int v, .int (Int32.ofNat i), .ref (k + 1)]) (s' := rfill s k i v) rfl ?_
      refine yp_iast rfl h5 h6 (by omega) (by omega) ?_
      rw [e, Int.toNat_natCast, yup_fill]
      refine yp_run 2 (pc' := 2) (lv' := [(0, .ref k), (1, .int v), (2, .int (Int32.ofNat i + 1))]) (st' := []) (s' := rfill s k (i + 1) v) rfl ?_
      rw [i32_s]
      exact ih (i + 1) (by omega)
theorem c_rfill {k : Nat} {v : Int32} (hk : yrw k = true) (kk : Φ none (rfill s k (yln (k + 1)) v)) : Yq sd 11 [.ref k, .int v] s Φ := by
  refine Yq.of rfl (Nat.le_of_ble_eq_true rfl) ?_
  refine yp_run 2 (pc' := 2) (lv' := [(0, .ref k), (1, .int v), (2, .int (Int32.ofNat 0))]) (st' := []) (s' := s) rfl ?_
  have := l_rfill (sd := sd) hk kk (yln (k + 1)) 0 (Nat.zero_add _)
  rw [rfill_0] at this
  exact this
end YG
