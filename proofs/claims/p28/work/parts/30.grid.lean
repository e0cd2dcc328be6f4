/-! grids on numbers -/
section YH
variable {sd : Option (List Int32)} {μ pc : Nat} {lv : xL} {st : List Value} {s : yS} {Φ : Option Value → yS → Prop}
def ygd (k : Nat) : Bool := Nat.blt k 73 && (Nat.beq (ykd k) 2 && (Nat.beq (yln k) 2 && (Nat.beq (yfr k 1) (k + 1) && (Nat.ble 1000 (yfr k 0) && (Nat.blt (yfr k 0) 2000 && Nat.beq (ykd (k + 1)) 100)))))
def ycl (k : Nat) : Nat := yfr k 0 - 1000
theorem ygd_ok {k : Nat} (h : ygd k = true) : k < 74 ∧ ykd k = 2 ∧ yln k = 2 ∧ (∀ s : yS, ysl s k 0 = .int (Int32.ofNat (ycl k))) ∧ (∀ s : yS, ysl s k 1 = .ref (k + 1)) ∧ k + 1 < 74 ∧ ykd (k + 1) = 100 ∧ ycl k < 1000 := by
  unfold ygd at h
  simp only [Bool.and_eq_true] at h
  obtain ⟨a, b, c, d, e, f, g⟩ := h
  have a := Nat.le_of_ble_eq_true a
  have d := Nat.eq_of_beq_eq_true d
  have e := Nat.le_of_ble_eq_true e
  have f := Nat.le_of_ble_eq_true f
  refine ⟨by omega, Nat.eq_of_beq_eq_true b, Nat.eq_of_beq_eq_true c, fun s => ?_, fun s => ?_, by omega, Nat.eq_of_beq_eq_true g, by unfold ycl; omega⟩
  · unfold ysl ycl
    obtain ⟨q, hq⟩ : ∃ q, yfr k 0 = q + 1 := ⟨yfr k 0 - 1, by omega⟩
    rw [hq]
    show (bif Nat.ble 1000 (q + 1) then _ else _) = _
    rw [show Nat.ble 1000 (q + 1) = true from Nat.ble_eq_true_of_le (by omega)]
    rfl
  · unfold ysl
    rw [d]
    show (bif Nat.ble 1000 (k + 1) then _ else _) = _
    cases hb : Nat.ble 1000 (k + 1) with
    | true => have := Nat.le_of_ble_eq_true hb; omega
    | false => rfl
/-- where a row and a column lie -/
def gat (k : Nat) (r c : Int32) : Int32 := if yin c (ycl k) then r * Int32.ofNat (ycl k) + c else -1
def gget (s : yS) (k : Nat) (r c : Int32) : Int32 := if yin (gat k r c) (yln (k + 1)) then s (k + 1) (gat k r c).toInt.toNat else 0
def gset (s : yS) (k : Nat) (r c v : Int32) : yS := if yin (gat k r c) (yln (k + 1)) then yup s (k + 1) (gat k r c).toInt.toNat v else s

theorem l_gget {k : Nat} {r c a : Int32} (hk : ygd k = true) (ha : a = gat k r c) (kk : Φ (some (.int (gget s k r c))) s) : Yp sd 4 24 [(0, .ref k), (1, .int r), (2, .int c)] [.int a] s Φ := by
  subst ha
  generalize ha : gat k r c = a at kk ⊢
  obtain ⟨h1, h2, h3, h4, h5, h6, h7, h8⟩ := ygd_ok hk
  have hn := yln_le (k + 1)
  refine yp_run 2 (pc' := 26) (lv' := [(0, .ref k), (1, .int r), (2, .int c), (3, .int a)]) (st' := [.int a]) (s' := s) rfl ?_
  refine yp_if rfl rfl (fun hb => ?_) (fun hb => ?_)
  · have hb := xT (xc_lt _ _) hb
    rw [Int32.toInt_zero] at hb
    refine yp_run 1 (pc' := 48) (lv' := [(0, .ref k), (1, .int r), (2, .int c), (3, .int a)]) (st' := [.int 0]) (s' := s) rfl ?_
    refine yp_ri rfl rfl ?_
    unfold gget at kk
    rw [ha, if_neg (by unfold yin; omega)] at kk
    exact kk
  · have hb := xN (xc_lt _ _) hb
    rw [Int32.toInt_zero] at hb
    refine yp_run 2 (pc' := 31) (lv' := [(0, .ref k), (1, .int r), (2, .int c), (3, .int a)]) (st' := [.ref k, .int a]) (s' := s) rfl ?_
    refine yp_gf rfl rfl h1 h2 (by omega) (h5 s) ?_
    refine yp_al rfl h6 h7 ?_
    refine yp_icmp rfl rfl (fun hc => ?_) (fun hc => ?_)
    · have hc := xT (xc_ge _ _) hc
      rw [i32_to (by omega)] at hc
      refine yp_run 1 (pc' := 48) (lv' := [(0, .ref k), (1, .int r), (2, .int c), (3, .int a)]) (st' := [.int 0]) (s' := s) rfl ?_
      refine yp_ri rfl rfl ?_
      unfold gget at kk
      rw [ha, if_neg (by unfold yin; omega)] at kk
      exact kk
    · have hc := xN (xc_ge _ _) hc
      rw [i32_to (by omega)] at hc
      refine yp_run 1 (pc' := 39) (lv' := [(0, .ref k), (1, .int r), (2, .int c), (3, .int a)]) (st' := [.ref k]) (s' := s) rfl ?_
      refine yp_gf rfl rfl h1 h2 (by omega) (h5 s) ?_
      refine yp_run 1 (pc' := 43) (lv' := [(0, .ref k), (1, .int r), (2, .int c), (3, .int a)]) (st' := [.int a, .ref (k + 1)]) (s' := s) rfl ?_
      refine yp_iald rfl h6 h7 (by omega) (by omega) ?_
      refine yp_run 1 (pc' := 48) (lv' := [(0, .ref k), (1, .int r), (2, .int c), (3, .int a)]) (st' := [.int (s (k + 1) a.toInt.toNat)]) (s' := s) rfl ?_
      refine yp_ri rfl rfl ?_
      unfold gget at kk
      rw [ha, if_pos (by unfold yin; omega)] at kk
      exact kk
theorem c_gget {k : Nat} {r c : Int32} (hk : ygd k = true) (kk : Φ (some (.int (gget s k r c))) s) : Yq sd 4 [.ref k, .int r, .int c] s Φ := by
  obtain ⟨h1, h2, h3, h4, h5, h6, h7, h8⟩ := ygd_ok hk
  refine Yq.of rfl (Nat.le_of_ble_eq_true rfl) ?_
  refine yp_run 1 (pc' := 1) (lv' := [(0, .ref k), (1, .int r), (2, .int c)]) (st' := [.int c]) (s' := s) rfl ?_
  refine yp_if rfl rfl (fun hb => ?_) (fun hb => ?_)
  · have hb := xT (xc_lt _ _) hb
    rw [Int32.toInt_zero] at hb
    refine yp_run 1 (pc' := 24) (lv' := [(0, .ref k), (1, .int r), (2, .int c)]) (st' := [.int (-1)]) (s' := s) rfl ?_
    exact l_gget hk (by unfold gat; rw [if_neg (by unfold yin; omega)]) kk
  · have hb := xN (xc_lt _ _) hb
    rw [Int32.toInt_zero] at hb
    refine yp_run 2 (pc' := 6) (lv' := [(0, .ref k), (1, .int r), (2, .int c)]) (st' := [.ref k, .int c]) (s' := s) rfl ?_
    refine yp_gf rfl rfl h1 h2 (by omega) (h4 s) ?_
    refine yp_icmp rfl rfl (fun hc => ?_) (fun hc => ?_)
    · have hc := xT (xc_ge _ _) hc
      rw [i32_to (by omega)] at hc
      refine yp_run 1 (pc' := 24) (lv' := [(0, .ref k), (1, .int r), (2, .int c)]) (st' := [.int (-1)]) (s' := s) rfl ?_
      exact l_gget hk (by unfold gat; rw [if_neg (by unfold yin; omega)]) kk
    · have hc := xN (xc_ge _ _) hc
      rw [i32_to (by omega)] at hc
      refine yp_run 2 (pc' := 14) (lv' := [(0, .ref k), (1, .int r), (2, .int c)]) (st' := [.ref k, .int r]) (s' := s) rfl ?_
      refine yp_gf rfl rfl h1 h2 (by omega) (h4 s) ?_
      refine yp_run 4 (pc' := 24) (lv' := [(0, .ref k), (1, .int r), (2, .int c)]) (st' := [.int (r * Int32.ofNat (ycl k) + c)]) (s' := s) rfl ?_
      exact l_gget hk (by unfold gat; rw [if_pos (by unfold yin; omega)]) kk
theorem l_gset {k : Nat} {r c v a : Int32} (hk : ygd k = true) (ha : a = gat k r c) (kk : Φ none (gset s k r c v)) : Yp sd 7 24 [(0, .ref k), (1, .int r), (2, .int c), (3, .int v)] [.int a] s Φ := by
  subst ha
  generalize ha : gat k r c = a at kk ⊢
  obtain ⟨h1, h2, h3, h4, h5, h6, h7, h8⟩ := ygd_ok hk
  have hn := yln_le (k + 1)
  refine yp_run 2 (pc' := 28) (lv' := [(0, .ref k), (1, .int r), (2, .int c), (3, .int v), (4, .int a)]) (st' := [.int a]) (s' := s) rfl ?_
  refine yp_if rfl rfl (fun hb => ?_) (fun hb => ?_)
  · have hb := xT (xc_lt _ _) hb
    rw [Int32.toInt_zero] at hb
    refine yp_rv rfl rfl ?_
    unfold gset at kk
    rw [ha, if_neg (by unfold yin; omega)] at kk
    exact kk
  · have hb := xN (xc_lt _ _) hb
    rw [Int32.toInt_zero] at hb
    refine yp_run 2 (pc' := 34) (lv' := [(0, .ref k), (1, .int r), (2, .int c), (3, .int v), (4, .int a)]) (st' := [.ref k, .int a]) (s' := s) rfl ?_
    refine yp_gf rfl rfl h1 h2 (by omega) (h5 s) ?_
    refine yp_al rfl h6 h7 ?_
    refine yp_icmp rfl rfl (fun hc => ?_) (fun hc => ?_)
    · have hc := xT (xc_ge _ _) hc
      rw [i32_to (by omega)] at hc
      refine yp_rv rfl rfl ?_
      unfold gset at kk
      rw [ha, if_neg (by unfold yin; omega)] at kk
      exact kk
    · have hc := xN (xc_ge _ _) hc
      rw [i32_to (by omega)] at hc
      refine yp_run 1 (pc' := 42) (lv' := [(0, .ref k), (1, .int r), (2, .int c), (3, .int v), (4, .int a)]) (st' := [.ref k]) (s' := s) rfl ?_
      refine yp_gf rfl rfl h1 h2 (by omega) (h5 s) ?_
      refine yp_run 2 (pc' := 48) (lv' := [(0, .ref k), (1, .int r), (2, .int c), (3, .int v), (4, .int a)]) (st' := [.int v, .int a, .ref (k + 1)]) (s' := s) rfl ?_
      refine yp_iast rfl h6 h7 (by omega) (by omega) ?_
      refine yp_rv rfl rfl ?_
      unfold gset at kk
      rw [ha, if_pos (by unfold yin; omega)] at kk
      exact kk
theorem c_gset {k : Nat} {r c v : Int32} (hk : ygd k = true) (kk : Φ none (gset s k r c v)) : Yq sd 7 [.ref k, .int r, .int c, .int v] s Φ := by
  obtain ⟨h1, h2, h3, h4, h5, h6, h7, h8⟩ := ygd_ok hk
  refine Yq.of rfl (Nat.le_of_ble_eq_true rfl) ?_
  refine yp_run 1 (pc' := 1) (lv' := [(0, .ref k), (1, .int r), (2, .int c), (3, .int v)]) (st' := [.int c]) (s' := s) rfl ?_
  refine yp_if rfl rfl (fun hb => ?_) (fun hb => ?_)
  · have hb := xT (xc_lt _ _) hb
    rw [Int32.toInt_zero] at hb
    refine yp_run 1 (pc' := 24) (lv' := [(0, .ref k), (1, .int r), (2, .int c), (3, .int v)]) (st' := [.int (-1)]) (s' := s) rfl ?_
    exact l_gset hk (by unfold gat; rw [if_neg (by unfold yin; omega)]) kk
  · have hb := xN (xc_lt _ _) hb
    rw [Int32.toInt_zero] at hb
    refine yp_run 2 (pc' := 6) (lv' := [(0, .ref k), (1, .int r), (2, .int c), (3, .int v)]) (st' := [.ref k, .int c]) (s' := s) rfl ?_
    refine yp_gf rfl rfl h1 h2 (by omega) (h4 s) ?_
    refine yp_icmp rfl rfl (fun hc => ?_) (fun hc => ?_)
    · have hc := xT (xc_ge _ _) hc
      rw [i32_to (by omega)] at hc
      refine yp_run 1 (pc' := 24) (lv' := [(0, .ref k), (1, .int r), (2, .int c), (3, .int v)]) (st' := [.int (-1)]) (s' := s) rfl ?_
      exact l_gset hk (by unfold gat; rw [if_neg (by unfold yin; omega)]) kk
    · have hc := xN (xc_ge _ _) hc
      rw [i32_to (by omega)] at hc
      refine yp_run 2 (pc' := 14) (lv' := [(0, .ref k), (1, .int r), (2, .int c), (3, .int v)]) (st' := [.ref k, .int r]) (s' := s) rfl ?_
      refine yp_gf rfl rfl h1 h2 (by omega) (h4 s) ?_
      refine yp_run 4 (pc' := 24) (lv' := [(0, .ref k), (1, .int r), (2, .int c), (3, .int v)]) (st' := [.int (r * Int32.ofNat (ycl k) + c)]) (s' := s) rfl ?_
      exact l_gset hk (by unfold gat; rw [if_pos (by unfold yin; omega)]) kk
theorem l_gadd {k : Nat} {r c v a : Int32} (hk : ygd k = true) (ha : a = gat k r c) (kk : Φ none (gset s k r c (gget s k r c + v))) : Yp sd 17 24 [(0, .ref k), (1, .int r), (2, .int c), (3, .int v)] [.int a] s Φ := by
  subst ha
  generalize ha : gat k r c = a at kk ⊢
  obtain ⟨h1, h2, h3, h4, h5, h6, h7, h8⟩ := ygd_ok hk
  have hn := yln_le (k + 1)
  refine yp_run 2 (pc' := 28) (lv' := [(0, .ref k), (1, .int r), (2, .int c), (3, .int v), (4, .int a)]) (st' := [.int a]) (s' := s) rfl ?_
  refine yp_if rfl rfl (fun hb => ?_) (fun hb => ?_)
  · have hb := xT (xc_lt _ _) hb
    rw [Int32.toInt_zero] at hb
    refine yp_rv rfl rfl ?_
    unfold gset at kk
    rw [ha, if_neg (by unfold yin; omega)] at kk
    exact kk
  · have hb := xN (xc_lt _ _) hb
    rw [Int32.toInt_zero] at hb
    refine yp_run 2 (pc' := 34) (lv' := [(0, .ref k), (1, .int r), (2, .int c), (3, .int v), (4, .int a)]) (st' := [.ref k, .int a]) (s' := s) rfl ?_
    refine yp_gf rfl rfl h1 h2 (by omega) (h5 s) ?_
    refine yp_al rfl h6 h7 ?_
    refine yp_icmp rfl rfl (fun hc => ?_) (fun hc => ?_)
    · have hc := xT (xc_ge _ _) hc
      rw [i32_to (by omega)] at hc
      refine yp_rv rfl rfl ?_
      unfold gset at kk
      rw [ha, if_neg (by unfold yin; omega)] at kk
      exact kk
    · have hc := xN (xc_ge _ _) hc
      rw [i32_to (by omega)] at hc
      refine yp_run 1 (pc' := 42) (lv' := [(0, .ref k), (1, .int r), (2, .int c), (3, .int v), (4, .int a)]) (st' := [.ref k]) (s' := s) rfl ?_
      refine yp_gf rfl rfl h1 h2 (by omega) (h5 s) ?_
      refine yp_run 2 (pc' := 48) (lv' := [(0, .ref k), (1, .int r), (2, .int c), (3, .int v), (4, .int a)]) (st' := [.int a, .ref (k + 1), .int a, .ref (k + 1)]) (s' := s) rfl ?_
      refine yp_iald rfl h6 h7 (by omega) (by omega) ?_
      refine yp_run 2 (pc' := 51) (lv' := [(0, .ref k), (1, .int r), (2, .int c), (3, .int v), (4, .int a)]) (st' := [.int (s (k + 1) a.toInt.toNat + v), .int a, .ref (k + 1)]) (s' := s) rfl ?_
      refine yp_iast rfl h6 h7 (by omega) (by omega) ?_
      refine yp_rv rfl rfl ?_
      unfold gset gget at kk
      rw [ha, if_pos (by unfold yin; omega), if_pos (by unfold yin; omega)] at kk
      exact kk
theorem c_gadd {k : Nat} {r c v : Int32} (hk : ygd k = true) (kk : Φ none (gset s k r c (gget s k r c + v))) : Yq sd 17 [.ref k, .int r, .int c, .int v] s Φ := by
  obtain ⟨h1, h2, h3, h4, h5, h6, h7, h8⟩ := ygd_ok hk
  refine Yq.of rfl (Nat.le_of_ble_eq_true rfl) ?_
  refine yp_run 1 (pc' := 1) (lv' := [(0, .ref k), (1, .int r), (2, .int c), (3, .int v)]) (st' := [.int c]) (s' := s) rfl ?_
  refine yp_if rfl rfl (fun hb => ?_) (fun hb => ?_)
  · have hb := xT (xc_lt _ _) hb
    rw [Int32.toInt_zero] at hb
    refine yp_run 1 (pc' := 24) (lv' := [(0, .ref k), (1, .int r), (2, .int c), (3, .int v)]) (st' := [.int (-1)]) (s' := s) rfl ?_
    exact l_gadd hk (by unfold gat; rw [if_neg (by unfold yin; omega)]) kk
  · have hb := xN (xc_lt _ _) hb
    rw [Int32.toInt_zero] at hb
    refine yp_run 2 (pc' := 6) (lv' := [(0, .ref k), (1, .int r), (2, .int c), (3, .int v)]) (st' := [.ref k, .int c]) (s' := s) rfl ?_
    refine yp_gf rfl rfl h1 h2 (by omega) (h4 s) ?_
    refine yp_icmp rfl rfl (fun hc => ?_) (fun hc => ?_)
    · have hc := xT (xc_ge _ _) hc
      rw [i32_to (by omega)] at hc
      refine yp_run 1 (pc' := 24) (lv' := [(0, .ref k), (1, .int r), (2, .int c), (3, .int v)]) (st' := [.int (-1)]) (s' := s) rfl ?_
      exact l_gadd hk (by unfold gat; rw [if_neg (by unfold yin; omega)]) kk
    · have hc := xN (xc_ge _ _) hc
      rw [i32_to (by omega)] at hc
      refine yp_run 2 (pc' := 14) (lv' := [(0, .ref k), (1, .int r), (2, .int c), (3, .int v)]) (st' := [.ref k, .int r]) (s' := s) rfl ?_
      refine yp_gf rfl rfl h1 h2 (by omega) (h4 s) ?_
      refine yp_run 4 (pc' := 24) (lv' := [(0, .ref k), (1, .int r), (2, .int c), (3, .int v)]) (st' := [.int (r * Int32.ofNat (ycl k) + c)]) (s' := s) rfl ?_
      exact l_gadd hk (by unfold gat; rw [if_pos (by unfold yin; omega)]) kk
theorem l_gfill {k : Nat} {v : Int32} (hk : ygd k = true) (kk : Φ none (rfill s k (yln (k + 1)) v)) : ∀ (m i : Nat), i + m = yln (k + 1) → Yp sd 10 2 [(0, .ref k), (1, .int v), (2, .int (Int32.ofNat i))] [] (rfill s k i v) Φ := by
  obtain ⟨h1, h2, h3, h4, h5, h6, h7, h8⟩ := ygd_ok hk
  have hn := yln_le (k + 1)
  intro m
  induction m with
  | zero =>
    intro i hi
    refine yp_run 2 (pc' := 4) (lv' := [(0, .ref k), (1, .int v), (2, .int (Int32.ofNat i))]) (st' := [.ref k, .int (Int32.ofNat i)]) (s' := rfill s k i v) rfl ?_
    refine yp_gf rfl rfl h1 h2 (by omega) (h5 _) ?_
    refine yp_al rfl h6 h7 ?_
    refine yp_icmp rfl rfl (fun hc => ?_) (fun hc => ?_)
    · refine yp_rv rfl rfl ?_
      rw [show i = yln (k + 1) by omega]
      exact kk
    · have hc := xN (xc_ge _ _) hc
      rw [i32_to (by omega), i32_to (by omega)] at hc
      omega
  | succ m ih =>
    intro i hi
    refine yp_run 2 (pc' := 4) (lv' := [(0, .ref k), (1, .int v), (2, .int (Int32.ofNat i))]) (st' := [.ref k, .int (Int32.ofNat i)]) (s' := rfill s k i v) rfl ?_
    refine yp_gf rfl rfl h1 h2 (by omega) (h5 _) ?_
    refine yp_al rfl h6 h7 ?_
    refine yp_icmp rfl rfl (fun hc => ?_) (fun hc => ?_)
    · have hc := xT (xc_ge _ _) hc
      rw [i32_to (by omega), i32_to (by omega)] at hc
      omega
    · have e := i32_to (n := i) (by omega)
      refine yp_run 1 (pc' := 12) (lv' := [(0, .ref k), (1, .int v), (2, .int (Int32.ofNat i))]) (st' := [.ref k]) (s' := rfill s k i v) rfl ?_
      refine yp_gf rfl rfl h1 h2 (by omega) (h5 _) ?_
      refine yp_run 2 (pc' := 17) (lv' := [(0, .ref k), (1, .int v), (2, .int (Int32.ofNat i))]) (st' := [.int v, .int (Int32.ofNat i), .ref (k + 1)]) (s' := rfill s k i v) rfl ?_
      refine yp_iast rfl h6 h7 (by omega) (by omega) ?_
      rw [e, Int.toNat_natCast, yup_fill]
      refine yp_run 2 (pc' := 2) (lv' := [(0, .ref k), (1, .int v), (2, .int (Int32.ofNat i + 1))]) (st' := []) (s' := rfill s k (i + 1) v) rfl ?_
      rw [i32_s]
      exact ih (i + 1) (by omega)
theorem c_gfill {k : Nat} {v : Int32} (hk : ygd k = true) (kk : Φ none (rfill s k (yln (k + 1)) v)) : Yq sd 10 [.ref k, .int v] s Φ := by
  refine Yq.of rfl (Nat.le_of_ble_eq_true rfl) ?_
  refine yp_run 2 (pc' := 2) (lv' := [(0, .ref k), (1, .int v), (2, .int (Int32.ofNat 0))]) (st' := []) (s' := s) rfl ?_
  have := l_gfill (sd := sd) hk kk (yln (k + 1)) 0 (Nat.zero_add _)
  rw [rfill_0] at this
  exact this
end YH
