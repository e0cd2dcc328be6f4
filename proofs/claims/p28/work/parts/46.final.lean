/-! the winners; what needs be; where one is; sheets of a dance -/
section YY3
variable {sd : Option (List Int32)} {μ pc : Nat} {lv : xL} {st : List Value} {s : yS} {Φ : Option Value → yS → Prop}
def wls (EP : Nat → Int32) (i : Nat) (a : Int32) : Int32 := (if (EP i) < a then (EP i) else a)
theorem wls_eq (EP : Nat → Int32) (i : Nat) (a : Int32) : wls EP i a = (if (EP i) < a then (EP i) else a) := rfl
theorem lz_wl {S : Nat} {n : Nat} {EP : Nat → Int32} {a0 : Int32} (hS : yss S) (hn : n ≤ 8) (hz : s S 0 = Int32.ofNat n) (hEP : ∀ p, p < n → s (S + 8) p = EP p) (kk : Yp sd 49 32 [(0, .ref S), (1, .int (itf (wls EP) n a0)), (2, .int (Int32.ofNat n))] [] s Φ) : ∀ m i : Nat, i + m = n → Yp sd 49 5 [(0, .ref S), (1, .int (itf (wls EP) i a0)), (2, .int (Int32.ofNat i))] [] s Φ := by
  intro m
  rcases hS with rfl | rfl
  · have hz : s 30 0 = Int32.ofNat n := hz
    induction m with
    | zero =>
      intro i hi
      refine yp_run 3 (pc' := 10) (lv' := [(0, .ref 30), (1, .int (itf (wls EP) i a0)), (2, .int (Int32.ofNat i))]) (st' := [.int (s 30 0), .int (Int32.ofNat i)]) (s' := s) rfl ?_
      refine yp_icmp rfl rfl (fun h => ?_) (fun h => ?_)
      · rw [show i = n by omega]
        exact kk
      · have h := xN (xc_ge _ _) h
        rw [hz, i32_to (by omega), i32_to (by omega)] at h
        omega
    | succ m ih =>
      intro i hi
      refine yp_run 3 (pc' := 10) (lv' := [(0, .ref 30), (1, .int (itf (wls EP) i a0)), (2, .int (Int32.ofNat i))]) (st' := [.int (s 30 0), .int (Int32.ofNat i)]) (s' := s) rfl ?_
      refine yp_icmp rfl rfl (fun h => ?_) (fun h => ?_)
      · have h := xT (xc_ge _ _) h
        rw [hz, i32_to (by omega), i32_to (by omega)] at h
        omega
      · refine yp_run 4 (pc' := 19) (lv' := [(0, .ref 30), (1, .int (itf (wls EP) i a0)), (2, .int (Int32.ofNat i))]) (st' := [.int (Int32.ofNat i), .ref 37, .int (itf (wls EP) i a0)]) (s' := s) rfl ?_
        have gE : rget s 37 (Int32.ofNat i) = EP i := (rget_i (by show i < 8; omega)).trans (hEP i (by omega))
        refine yp_vi rfl rfl rfl rfl (c_rgetv rfl gE ?_)
        refine yp_math (v := (if (EP i) < (itf (wls EP) i a0) then (EP i) else (itf (wls EP) i a0))) (rest := []) rfl rfl ?_
        refine yp_run 3 (pc' := 5) (lv' := [(0, .ref 30), (1, .int (if (EP i) < (itf (wls EP) i a0) then (EP i) else (itf (wls EP) i a0))), (2, .int ((Int32.ofNat i) + 1))]) (st' := []) (s' := s) rfl ?_
        have e9 : (itf (wls EP) (i + 1) a0) = (if (EP i) < (itf (wls EP) i a0) then (EP i) else (itf (wls EP) i a0)) := by
          refine (wls_eq EP i (itf (wls EP) i a0)).trans ?_
          rfl
        have e8 := ih (i + 1) (by omega)
        rw [e9] at e8
        rw [i32_s]
        refine yp_sel [0, 1, 2] ?_
        exact e8
  · have hz : s 52 0 = Int32.ofNat n := hz
    induction m with
    | zero =>
      intro i hi
      refine yp_run 3 (pc' := 10) (lv' := [(0, .ref 52), (1, .int (itf (wls EP) i a0)), (2, .int (Int32.ofNat i))]) (st' := [.int (s 52 0), .int (Int32.ofNat i)]) (s' := s) rfl ?_
      refine yp_icmp rfl rfl (fun h => ?_) (fun h => ?_)
      · rw [show i = n by omega]
        exact kk
      · have h := xN (xc_ge _ _) h
        rw [hz, i32_to (by omega), i32_to (by omega)] at h
        omega
    | succ m ih =>
      intro i hi
      refine yp_run 3 (pc' := 10) (lv' := [(0, .ref 52), (1, .int (itf (wls EP) i a0)), (2, .int (Int32.ofNat i))]) (st' := [.int (s 52 0), .int (Int32.ofNat i)]) (s' := s) rfl ?_
      refine yp_icmp rfl rfl (fun h => ?_) (fun h => ?_)
      · have h := xT (xc_ge _ _) h
        rw [hz, i32_to (by omega), i32_to (by omega)] at h
        omega
      · refine yp_run 4 (pc' := 19) (lv' := [(0, .ref 52), (1, .int (itf (wls EP) i a0)), (2, .int (Int32.ofNat i))]) (st' := [.int (Int32.ofNat i), .ref 59, .int (itf (wls EP) i a0)]) (s' := s) rfl ?_
        have gE : rget s 59 (Int32.ofNat i) = EP i := (rget_i (by show i < 8; omega)).trans (hEP i (by omega))
        refine yp_vi rfl rfl rfl rfl (c_rgetv rfl gE ?_)
        refine yp_math (v := (if (EP i) < (itf (wls EP) i a0) then (EP i) else (itf (wls EP) i a0))) (rest := []) rfl rfl ?_
        refine yp_run 3 (pc' := 5) (lv' := [(0, .ref 52), (1, .int (if (EP i) < (itf (wls EP) i a0) then (EP i) else (itf (wls EP) i a0))), (2, .int ((Int32.ofNat i) + 1))]) (st' := []) (s' := s) rfl ?_
        have e9 : (itf (wls EP) (i + 1) a0) = (if (EP i) < (itf (wls EP) i a0) then (EP i) else (itf (wls EP) i a0)) := by
          refine (wls_eq EP i (itf (wls EP) i a0)).trans ?_
          rfl
        have e8 := ih (i + 1) (by omega)
        rw [e9] at e8
        rw [i32_s]
        refine yp_sel [0, 1, 2] ?_
        exact e8
def wws (EP : Nat → Int32) (least : Int32) (i : Nat) (a : Int32) : Int32 := (bif xcmp .ne (EP i) least then a else (a ||| (1 <<< ((Int32.ofNat i) &&& 31))))
theorem wws_eq (EP : Nat → Int32) (least : Int32) (i : Nat) (a : Int32) : wws EP least i a = (bif xcmp .ne (EP i) least then a else (a ||| (1 <<< ((Int32.ofNat i) &&& 31)))) := rfl
theorem lz_ww {S : Nat} {n : Nat} {EP : Nat → Int32} {least : Int32} {a0 : Int32} (hS : yss S) (hn : n ≤ 8) (hz : s S 0 = Int32.ofNat n) (hEP : ∀ p, p < n → s (S + 8) p = EP p) (kk : Yp sd 49 68 [(0, .ref S), (1, .int least), (2, .int (itf (wws EP least) n a0)), (3, .int (Int32.ofNat n))] [] s Φ) : ∀ m i : Nat, i + m = n → Yp sd 49 36 [(0, .ref S), (1, .int least), (2, .int (itf (wws EP least) i a0)), (3, .int (Int32.ofNat i))] [] s Φ := by
  intro m
  rcases hS with rfl | rfl
  · have hz : s 30 0 = Int32.ofNat n := hz
    induction m with
    | zero =>
      intro i hi
      refine yp_run 3 (pc' := 41) (lv' := [(0, .ref 30), (1, .int least), (2, .int (itf (wws EP least) i a0)), (3, .int (Int32.ofNat i))]) (st' := [.int (s 30 0), .int (Int32.ofNat i)]) (s' := s) rfl ?_
      refine yp_icmp rfl rfl (fun h => ?_) (fun h => ?_)
      · rw [show i = n by omega]
        exact kk
      · have h := xN (xc_ge _ _) h
        rw [hz, i32_to (by omega), i32_to (by omega)] at h
        omega
    | succ m ih =>
      intro i hi
      refine yp_run 3 (pc' := 41) (lv' := [(0, .ref 30), (1, .int least), (2, .int (itf (wws EP least) i a0)), (3, .int (Int32.ofNat i))]) (st' := [.int (s 30 0), .int (Int32.ofNat i)]) (s' := s) rfl ?_
      refine yp_icmp rfl rfl (fun h => ?_) (fun h => ?_)
      · have h := xT (xc_ge _ _) h
        rw [hz, i32_to (by omega), i32_to (by omega)] at h
        omega
      · refine yp_run 3 (pc' := 49) (lv' := [(0, .ref 30), (1, .int least), (2, .int (itf (wws EP least) i a0)), (3, .int (Int32.ofNat i))]) (st' := [.int (Int32.ofNat i), .ref 37]) (s' := s) rfl ?_
        have gE : rget s 37 (Int32.ofNat i) = EP i := (rget_i (by show i < 8; omega)).trans (hEP i (by omega))
        refine yp_vi rfl rfl rfl rfl (c_rgetv rfl gE ?_)
        refine yp_run 1 (pc' := 53) (lv' := [(0, .ref 30), (1, .int least), (2, .int (itf (wws EP least) i a0)), (3, .int (Int32.ofNat i))]) (st' := [.int least, .int (EP i)]) (s' := s) rfl ?_
        refine yp_icmp rfl rfl (fun h53 => ?_) (fun h53 => ?_)
        · refine yp_run 2 (pc' := 36) (lv' := [(0, .ref 30), (1, .int least), (2, .int (itf (wws EP least) i a0)), (3, .int ((Int32.ofNat i) + 1))]) (st' := []) (s' := s) rfl ?_
          have e9 : (itf (wws EP least) (i + 1) a0) = (itf (wws EP least) i a0) := by
            refine (wws_eq EP least i (itf (wws EP least) i a0)).trans ?_
            simp only [h53, cond_true, cond_false]
          have e8 := ih (i + 1) (by omega)
          rw [e9] at e8
          rw [i32_s]
          refine yp_sel [0, 1, 2, 3] ?_
          exact e8
        · refine yp_run 8 (pc' := 36) (lv' := [(0, .ref 30), (1, .int least), (2, .int ((itf (wws EP least) i a0) ||| (1 <<< ((Int32.ofNat i) &&& 31)))), (3, .int ((Int32.ofNat i) + 1))]) (st' := []) (s' := s) rfl ?_
          have e9 : (itf (wws EP least) (i + 1) a0) = ((itf (wws EP least) i a0) ||| (1 <<< ((Int32.ofNat i) &&& 31))) := by
            refine (wws_eq EP least i (itf (wws EP least) i a0)).trans ?_
            simp only [h53, cond_true, cond_false]
          have e8 := ih (i + 1) (by omega)
          rw [e9] at e8
          rw [i32_s]
          refine yp_sel [0, 1, 2, 3] ?_
          exact e8
  · have hz : s 52 0 = Int32.ofNat n := hz
    induction m with
    | zero =>
      intro i hi
      refine yp_run 3 (pc' := 41) (lv' := [(0, .ref 52), (1, .int least), (2, .int (itf (wws EP least) i a0)), (3, .int (Int32.ofNat i))]) (st' := [.int (s 52 0), .int (Int32.ofNat i)]) (s' := s) rfl ?_
      refine yp_icmp rfl rfl (fun h => ?_) (fun h => ?_)
      · rw [show i = n by omega]
        exact kk
      · have h := xN (xc_ge _ _) h
        rw [hz, i32_to (by omega), i32_to (by omega)] at h
        omega
    | succ m ih =>
      intro i hi
      refine yp_run 3 (pc' := 41) (lv' := [(0, .ref 52), (1, .int least), (2, .int (itf (wws EP least) i a0)), (3, .int (Int32.ofNat i))]) (st' := [.int (s 52 0), .int (Int32.ofNat i)]) (s' := s) rfl ?_
      refine yp_icmp rfl rfl (fun h => ?_) (fun h => ?_)
      · have h := xT (xc_ge _ _) h
        rw [hz, i32_to (by omega), i32_to (by omega)] at h
        omega
      · refine yp_run 3 (pc' := 49) (lv' := [(0, .ref 52), (1, .int least), (2, .int (itf (wws EP least) i a0)), (3, .int (Int32.ofNat i))]) (st' := [.int (Int32.ofNat i), .ref 59]) (s' := s) rfl ?_
        have gE : rget s 59 (Int32.ofNat i) = EP i := (rget_i (by show i < 8; omega)).trans (hEP i (by omega))
        refine yp_vi rfl rfl rfl rfl (c_rgetv rfl gE ?_)
        refine yp_run 1 (pc' := 53) (lv' := [(0, .ref 52), (1, .int least), (2, .int (itf (wws EP least) i a0)), (3, .int (Int32.ofNat i))]) (st' := [.int least, .int (EP i)]) (s' := s) rfl ?_
        refine yp_icmp rfl rfl (fun h53 => ?_) (fun h53 => ?_)
        · refine yp_run 2 (pc' := 36) (lv' := [(0, .ref 52), (1, .int least), (2, .int (itf (wws EP least) i a0)), (3, .int ((Int32.ofNat i) + 1))]) (st' := []) (s' := s) rfl ?_
          have e9 : (itf (wws EP least) (i + 1) a0) = (itf (wws EP least) i a0) := by
            refine (wws_eq EP least i (itf (wws EP least) i a0)).trans ?_
            simp only [h53, cond_true, cond_false]
          have e8 := ih (i + 1) (by omega)
          rw [e9] at e8
          rw [i32_s]
          refine yp_sel [0, 1, 2, 3] ?_
          exact e8
        · refine yp_run 8 (pc' := 36) (lv' := [(0, .ref 52), (1, .int least), (2, .int ((itf (wws EP least) i a0) ||| (1 <<< ((Int32.ofNat i) &&& 31)))), (3, .int ((Int32.ofNat i) + 1))]) (st' := []) (s' := s) rfl ?_
          have e9 : (itf (wws EP least) (i + 1) a0) = ((itf (wws EP least) i a0) ||| (1 <<< ((Int32.ofNat i) &&& 31))) := by
            refine (wws_eq EP least i (itf (wws EP least) i a0)).trans ?_
            simp only [h53, cond_true, cond_false]
          have e8 := ih (i + 1) (by omega)
          rw [e9] at e8
          rw [i32_s]
          refine yp_sel [0, 1, 2, 3] ?_
          exact e8
def wnl (EP : Nat → Int32) (n : Nat) : Int32 := itf (wls EP) n 16
def wnn (EP : Nat → Int32) (n : Nat) : Int32 := itf (wws EP (wnl EP n)) n 0
theorem c_winn {S n : Nat} {EP : Nat → Int32} (hS : yss S) (hn : n ≤ 8) (hz : s S 0 = Int32.ofNat n) (hEP : ∀ p, p < n → s (S + 8) p = EP p) (kk : Φ (some (.int (wnn EP n))) s) : Yq sd 49 [.ref S] s Φ := by
  refine Yq.of rfl (Nat.le_of_ble_eq_true rfl) ?_
  rcases hS with rfl | rfl
  · refine yp_run 4 (pc' := 5) (lv' := [(0, .ref 30), (1, .int 16), (2, .int 0)]) (st' := []) (s' := s) rfl ?_
    refine lz_wl (a0 := 16)  (by decide) hn hz hEP ?_ n 0 (Nat.zero_add _)
    refine yp_run 4 (pc' := 36) (lv' := [(0, .ref 30), (1, .int (itf (wls EP) n 16)), (2, .int 0), (3, .int 0)]) (st' := []) (s' := s) rfl ?_
    refine lz_ww (a0 := 0) (EP := EP) (least := (wnl EP n)) (by decide) hn hz hEP ?_ n 0 (Nat.zero_add _)
    refine yp_run 1 (pc' := 69) (lv' := [(0, .ref 30), (1, .int (itf (wls EP) n 16)), (2, .int (itf (wws EP (wnl EP n)) n 0)), (3, .int (Int32.ofNat n))]) (st' := [.int (itf (wws EP (wnl EP n)) n 0)]) (s' := s) rfl ?_
    refine yp_ri rfl rfl ?_
    exact kk
  · refine yp_run 4 (pc' := 5) (lv' := [(0, .ref 52), (1, .int 16), (2, .int 0)]) (st' := []) (s' := s) rfl ?_
    refine lz_wl (a0 := 16)  (by decide) hn hz hEP ?_ n 0 (Nat.zero_add _)
    refine yp_run 4 (pc' := 36) (lv' := [(0, .ref 52), (1, .int (itf (wls EP) n 16)), (2, .int 0), (3, .int 0)]) (st' := []) (s' := s) rfl ?_
    refine lz_ww (a0 := 0) (EP := EP) (least := (wnl EP n)) (by decide) hn hz hEP ?_ n 0 (Nat.zero_add _)
    refine yp_run 1 (pc' := 69) (lv' := [(0, .ref 52), (1, .int (itf (wls EP) n 16)), (2, .int (itf (wws EP (wnl EP n)) n 0)), (3, .int (Int32.ofNat n))]) (st' := [.int (itf (wws EP (wnl EP n)) n 0)]) (s' := s) rfl ?_
    refine yp_ri rfl rfl ?_
    exact kk
theorem c_nDan {d : Int32} (h0 : 0 ≤ d.toInt) (hlt : d.toInt < (s 15 4).toInt) (kk : Φ none s) : Yq sd 62 [.ref 0, .int d] s Φ := by
  refine Yq.of rfl (Nat.le_of_ble_eq_true rfl) ?_
  refine yp_run 1 (pc' := 1) (lv' := [(0, .ref 0), (1, .int d)]) (st' := [.int d]) (s' := s) rfl ?_
  refine yp_if rfl rfl (fun h1 => ?_) (fun h1 => ?_)
  · have h1 := xT (xc_lt _ _) h1; rw [Int32.toInt_zero] at h1; omega
  · refine yp_run 4 (pc' := 12) (lv' := [(0, .ref 0), (1, .int d)]) (st' := [.int (s 15 4), .int d]) (s' := s) rfl ?_
    refine yp_icmp rfl rfl (fun h12 => ?_) (fun h12 => ?_)
    · refine yp_rv rfl rfl ?_
      exact kk
    · exact absurd hlt (xN (xc_lt _ _) h12)
theorem c_nCou {c : Int32} (h0 : 0 ≤ c.toInt) (hlt : c.toInt < (s 1 0).toInt) (kk : Φ none s) : Yq sd 55 [.ref 0, .int c] s Φ := by
  refine Yq.of rfl (Nat.le_of_ble_eq_true rfl) ?_
  refine yp_run 1 (pc' := 1) (lv' := [(0, .ref 0), (1, .int c)]) (st' := [.int c]) (s' := s) rfl ?_
  refine yp_if rfl rfl (fun h1 => ?_) (fun h1 => ?_)
  · have h1 := xT (xc_lt _ _) h1; rw [Int32.toInt_zero] at h1; omega
  · refine yp_run 4 (pc' := 12) (lv' := [(0, .ref 0), (1, .int c)]) (st' := [.int (s 1 0), .int c]) (s' := s) rfl ?_
    refine yp_icmp rfl rfl (fun h12 => ?_) (fun h12 => ?_)
    · refine yp_rv rfl rfl ?_
      exact kk
    · exact absurd hlt (xN (xc_lt _ _) h12)
theorem c_nFin {c : Int32} (hf : s 0 7 = 1) (hi : hds (s 15 2) c) (kk : Φ none s) : Yq sd 40 [.ref 0, .int c] s Φ := by
  refine Yq.of rfl (Nat.le_of_ble_eq_true rfl) ?_
  refine yp_run 2 (pc' := 4) (lv' := [(0, .ref 0), (1, .int c)]) (st' := [.int (s 0 7)]) (s' := s) rfl ?_
  refine yp_if rfl rfl (fun h4 => ?_) (fun h4 => ?_)
  · rw [hf] at h4; cases h4
  · refine yp_run 4 (pc' := 15) (lv' := [(0, .ref 0), (1, .int c)]) (st' := [.int c, .int (s 15 2)]) (s' := s) rfl ?_
    refine yp_st rfl rfl (c_hold ?_)
    refine yp_if rfl rfl (fun h18 => ?_) (fun h18 => ?_)
    · refine yp_rv rfl rfl ?_
      exact kk
    · exact absurd hi (hd_neF h18)
theorem c_nShe {j d : Int32} (hf : s 0 7 = 1) (hi : hass s j d) (kk : Φ none s) : Yq sd 1 [.ref 0, .int j, .int d] s Φ := by
  refine Yq.of rfl (Nat.le_of_ble_eq_true rfl) ?_
  refine yp_run 2 (pc' := 4) (lv' := [(0, .ref 0), (1, .int j), (2, .int d)]) (st' := [.int (s 0 7)]) (s' := s) rfl ?_
  refine yp_if rfl rfl (fun h4 => ?_) (fun h4 => ?_)
  · rw [hf] at h4; cases h4
  · refine yp_run 4 (pc' := 13) (lv' := [(0, .ref 0), (1, .int j), (2, .int d)]) (st' := [.int d, .int j, .ref 25]) (s' := s) rfl ?_
    refine yp_vi rfl rfl rfl rfl (c_has ?_)
    refine yp_if rfl rfl (fun h16 => ?_) (fun h16 => ?_)
    · refine yp_rv rfl rfl ?_
      exact kk
    · exact absurd hi (has_neF h16)
def all (n : Int32) : Int32 := (1 <<< (n &&& 31)) - 1
theorem c_pos {c : Int32} (kk : Φ (some (.int (bc6 (s 15 2 &&& all c)))) s) : Yq sd 41 [.ref 15, .int c] s Φ := by
  refine Yq.of rfl (Nat.le_of_ble_eq_true rfl) ?_
  refine yp_run 8 (pc' := 10) (lv' := [(0, .ref 15), (1, .int c)]) (st' := [.int ((s 15 2) &&& ((1 <<< (c &&& 31)) - 1))]) (s' := s) rfl ?_
  refine yp_st rfl rfl (c_bits ?_)
  refine yp_ri rfl rfl ?_
  exact kk
theorem pos_all : ∀ n, n < 9 → ∀ c, c < n → bc6 (all (Int32.ofNat n) &&& all (Int32.ofNat c)) = Int32.ofNat c := by decide +kernel
theorem bit_cnt : ∀ n, n < 9 → bc6 (all (Int32.ofNat n)) = Int32.ofNat n := by decide +kernel
theorem c_posv {n c : Nat} (hn : n ≤ 8) (hc : c < n) (hi : s 15 2 = all (Int32.ofNat n)) (kk : Φ (some (.int (Int32.ofNat c))) s) : Yq sd 41 [.ref 15, .int (Int32.ofNat c)] s Φ := by
  refine c_pos ?_
  rw [hi, pos_all n (by omega) c hc]
  exact kk
theorem all_in {n c : Nat} (hn : n ≤ 8) (hc : c < 10) : hds (all (Int32.ofNat n)) (Int32.ofNat c) ↔ c < n := hds_all (by omega) hc
theorem c_nFinv {n c : Nat} (hn : n ≤ 8) (hc : c < n) (hf : s 0 7 = 1) (hi : s 15 2 = all (Int32.ofNat n)) (kk : Φ none s) : Yq sd 40 [.ref 0, .int (Int32.ofNat c)] s Φ := c_nFin hf (by rw [hi]; exact (all_in hn (by omega)).mpr hc) kk
theorem lz_mb {n p : Nat} (hn : n ≤ 8) (hp : p < n) (hi9 : s 15 2 = all (Int32.ofNat n)) : ∀ m i : Nat, i + m = p → Φ (some (.int (Int32.ofNat p))) s → Yp sd 46 2 [(0, .ref 15), (1, .int (Int32.ofNat p)), (2, .int (Int32.ofNat i))] [] s Φ := by
  intro m
  induction m with
  | zero =>
    intro i hi kk
    refine yp_run 2 (pc' := 5) (lv' := [(0, .ref 15), (1, .int (Int32.ofNat p)), (2, .int (Int32.ofNat i))]) (st' := [.int 10, .int (Int32.ofNat i)]) (s' := s) rfl ?_
    refine yp_icmp rfl rfl (fun h => ?_) (fun h => ?_)
    · have h := xT (xc_ge _ _) h
      rw [show (10 : Int32).toInt = 10 from rfl, i32_to (by omega)] at h
      omega
    · refine yp_run 3 (pc' := 13) (lv' := [(0, .ref 15), (1, .int (Int32.ofNat p)), (2, .int (Int32.ofNat i))]) (st' := [.int (Int32.ofNat i), .int (s 15 2)]) (s' := s) rfl ?_
      refine yp_sn rfl rfl rfl (c_hold ?_)
      refine yp_if rfl rfl (fun h16 => ?_) (fun h16 => ?_)
      · exact absurd ((all_in (c := i) hn (by omega)).mpr (by omega)) (by rw [← hi9]; exact hd_eqT h16)
      · refine yp_run 2 (pc' := 21) (lv' := [(0, .ref 15), (1, .int (Int32.ofNat p)), (2, .int (Int32.ofNat i))]) (st' := [.int (Int32.ofNat i), .ref 15]) (s' := s) rfl ?_
        refine yp_vi rfl rfl rfl rfl (c_posv hn (by omega) hi9 ?_)
        refine yp_run 1 (pc' := 25) (lv' := [(0, .ref 15), (1, .int (Int32.ofNat p)), (2, .int (Int32.ofNat i))]) (st' := [.int (Int32.ofNat p), .int (Int32.ofNat i)]) (s' := s) rfl ?_
        refine yp_icmp rfl rfl (fun h25 => ?_) (fun h25 => ?_)
        · exact absurd (by rw [show i = p by omega]) (show Int32.ofNat i ≠ Int32.ofNat p by rw [xc_ne, Bool.not_eq_true', decide_eq_false_iff_not] at h25; exact h25)
        · refine yp_run 1 (pc' := 29) (lv' := [(0, .ref 15), (1, .int (Int32.ofNat p)), (2, .int (Int32.ofNat i))]) (st' := [.int (Int32.ofNat i)]) (s' := s) rfl ?_
          refine yp_ri rfl rfl ?_
          rw [show i = p by omega]
          exact kk
  | succ m ih =>
    intro i hi kk
    refine yp_run 2 (pc' := 5) (lv' := [(0, .ref 15), (1, .int (Int32.ofNat p)), (2, .int (Int32.ofNat i))]) (st' := [.int 10, .int (Int32.ofNat i)]) (s' := s) rfl ?_
    refine yp_icmp rfl rfl (fun h => ?_) (fun h => ?_)
    · have h := xT (xc_ge _ _) h
      rw [show (10 : Int32).toInt = 10 from rfl, i32_to (by omega)] at h
      omega
    · refine yp_run 3 (pc' := 13) (lv' := [(0, .ref 15), (1, .int (Int32.ofNat p)), (2, .int (Int32.ofNat i))]) (st' := [.int (Int32.ofNat i), .int (s 15 2)]) (s' := s) rfl ?_
      refine yp_sn rfl rfl rfl (c_hold ?_)
      refine yp_if rfl rfl (fun h16 => ?_) (fun h16 => ?_)
      · exact absurd ((all_in (c := i) hn (by omega)).mpr (by omega)) (by rw [← hi9]; exact hd_eqT h16)
      · refine yp_run 2 (pc' := 21) (lv' := [(0, .ref 15), (1, .int (Int32.ofNat p)), (2, .int (Int32.ofNat i))]) (st' := [.int (Int32.ofNat i), .ref 15]) (s' := s) rfl ?_
        refine yp_vi rfl rfl rfl rfl (c_posv hn (by omega) hi9 ?_)
        refine yp_run 1 (pc' := 25) (lv' := [(0, .ref 15), (1, .int (Int32.ofNat p)), (2, .int (Int32.ofNat i))]) (st' := [.int (Int32.ofNat p), .int (Int32.ofNat i)]) (s' := s) rfl ?_
        refine yp_icmp rfl rfl (fun h25 => ?_) (fun h25 => ?_)
        · refine yp_run 2 (pc' := 2) (lv' := [(0, .ref 15), (1, .int (Int32.ofNat p)), (2, .int ((Int32.ofNat i) + 1))]) (st' := []) (s' := s) rfl ?_
          rw [i32_s]
          exact ih (i + 1) (by omega) kk
        · exfalso; rw [xc_ne, Bool.not_eq_false', decide_eq_true_eq] at h25; have h25 := congrArg Int32.toInt h25; rw [i32_to (by omega), i32_to (by omega)] at h25; omega
theorem c_memb {n p : Nat} (hn : n ≤ 8) (hp : p < n) (hi9 : s 15 2 = all (Int32.ofNat n)) (kk : Φ (some (.int (Int32.ofNat p))) s) : Yq sd 46 [.ref 15, .int (Int32.ofNat p)] s Φ := by
  refine Yq.of rfl (Nat.le_of_ble_eq_true rfl) ?_
  refine yp_run 2 (pc' := 2) (lv' := [(0, .ref 15), (1, .int (Int32.ofNat p)), (2, .int (Int32.ofNat 0))]) (st' := []) (s' := s) rfl ?_
  exact lz_mb hn hp hi9 p 0 (Nat.zero_add p) kk
def ods (H : Nat → Int32) (i : Nat) (a : Int32) : Int32 := (bif xcmp .eq (H i) 0 then a else (a + 1))
theorem ods_eq (H : Nat → Int32) (i : Nat) (a : Int32) : ods H i a = (bif xcmp .eq (H i) 0 then a else (a + 1)) := rfl
theorem lz_od {H : Nat → Int32} {a0 : Int32} {d : Int32} (hH : ∀ j, j < 7 → has s (Int32.ofNat j) d = H j) (kk : Yp sd 38 28 [(0, .ref 25), (1, .int d), (2, .int (itf (ods H) 7 a0)), (3, .int (Int32.ofNat 7))] [] s Φ) : ∀ m i : Nat, i + m = 7 → Yp sd 38 4 [(0, .ref 25), (1, .int d), (2, .int (itf (ods H) i a0)), (3, .int (Int32.ofNat i))] [] s Φ := by
  intro m
  induction m with
  | zero =>
    intro i hi
    refine yp_run 2 (pc' := 7) (lv' := [(0, .ref 25), (1, .int d), (2, .int (itf (ods H) i a0)), (3, .int (Int32.ofNat i))]) (st' := [.int 7, .int (Int32.ofNat i)]) (s' := s) rfl ?_
    refine yp_icmp rfl rfl (fun h => ?_) (fun h => ?_)
    · rw [show i = 7 by omega]
      exact kk
    · have h := xN (xc_ge _ _) h
      rw [show (7 : Int32).toInt = 7 from rfl, i32_to (by omega)] at h
      omega
  | succ m ih =>
    intro i hi
    refine yp_run 2 (pc' := 7) (lv' := [(0, .ref 25), (1, .int d), (2, .int (itf (ods H) i a0)), (3, .int (Int32.ofNat i))]) (st' := [.int 7, .int (Int32.ofNat i)]) (s' := s) rfl ?_
    refine yp_icmp rfl rfl (fun h => ?_) (fun h => ?_)
    · have h := xT (xc_ge _ _) h
      rw [show (7 : Int32).toInt = 7 from rfl, i32_to (by omega)] at h
      omega
    · refine yp_run 3 (pc' := 13) (lv' := [(0, .ref 25), (1, .int d), (2, .int (itf (ods H) i a0)), (3, .int (Int32.ofNat i))]) (st' := [.int d, .int (Int32.ofNat i), .ref 25]) (s' := s) rfl ?_
      have gH := hH i (by omega)
      refine yp_vi rfl rfl rfl rfl (c_hasv gH ?_)
      refine yp_if rfl rfl (fun h16 => ?_) (fun h16 => ?_)
      · refine yp_run 2 (pc' := 4) (lv' := [(0, .ref 25), (1, .int d), (2, .int (itf (ods H) i a0)), (3, .int ((Int32.ofNat i) + 1))]) (st' := []) (s' := s) rfl ?_
        have e9 : (itf (ods H) (i + 1) a0) = (itf (ods H) i a0) := by
          refine (ods_eq H i (itf (ods H) i a0)).trans ?_
          simp only [h16, cond_true, cond_false]
        have e8 := ih (i + 1) (by omega)
        rw [e9] at e8
        rw [i32_s]
        refine yp_sel [0, 1, 2, 3] ?_
        exact e8
      · refine yp_run 3 (pc' := 4) (lv' := [(0, .ref 25), (1, .int d), (2, .int ((itf (ods H) i a0) + 1)), (3, .int ((Int32.ofNat i) + 1))]) (st' := []) (s' := s) rfl ?_
        have e9 : (itf (ods H) (i + 1) a0) = ((itf (ods H) i a0) + 1) := by
          refine (ods_eq H i (itf (ods H) i a0)).trans ?_
          simp only [h16, cond_true, cond_false]
        have e8 := ih (i + 1) (by omega)
        rw [e9] at e8
        rw [i32_s]
        refine yp_sel [0, 1, 2, 3] ?_
        exact e8
def shd (H : Nat → Int32) : Int32 := itf (ods H) 7 0
theorem c_ofD {d : Int32} {H : Nat → Int32} (hH : ∀ j, j < 7 → has s (Int32.ofNat j) d = H j) (kk : Φ (some (.int (shd H))) s) : Yq sd 38 [.ref 25, .int d] s Φ := by
  refine Yq.of rfl (Nat.le_of_ble_eq_true rfl) ?_
  refine yp_run 4 (pc' := 4) (lv' := [(0, .ref 25), (1, .int d), (2, .int 0), (3, .int 0)]) (st' := []) (s' := s) rfl ?_
  refine lz_od (a0 := 0)  hH ?_ 7 0 (Nat.zero_add _)
  refine yp_run 1 (pc' := 29) (lv' := [(0, .ref 25), (1, .int d), (2, .int (itf (ods H) 7 0)), (3, .int (Int32.ofNat 7))]) (st' := [.int (itf (ods H) 7 0)]) (s' := s) rfl ?_
  refine yp_ri rfl rfl ?_
  exact kk
def ojs (H : Nat → Int32) (i : Nat) (a : Int32) : Int32 := (bif xcmp .eq (H i) 0 then a else (a + 1))
theorem ojs_eq (H : Nat → Int32) (i : Nat) (a : Int32) : ojs H i a = (bif xcmp .eq (H i) 0 then a else (a + 1)) := rfl
theorem lz_oj {D : Nat} {H : Nat → Int32} {a0 : Int32} {j : Int32} (hD5 : D ≤ 5) (hD : s 25 1 = Int32.ofNat D) (hH : ∀ d, d < D → has s j (Int32.ofNat d) = H d) (kk : Yp sd 66 30 [(0, .ref 25), (1, .int j), (2, .int (itf (ojs H) D a0)), (3, .int (Int32.ofNat D))] [] s Φ) : ∀ m i : Nat, i + m = D → Yp sd 66 4 [(0, .ref 25), (1, .int j), (2, .int (itf (ojs H) i a0)), (3, .int (Int32.ofNat i))] [] s Φ := by
  intro m
  induction m with
  | zero =>
    intro i hi
    refine yp_run 3 (pc' := 9) (lv' := [(0, .ref 25), (1, .int j), (2, .int (itf (ojs H) i a0)), (3, .int (Int32.ofNat i))]) (st' := [.int (s 25 1), .int (Int32.ofNat i)]) (s' := s) rfl ?_
    refine yp_icmp rfl rfl (fun h => ?_) (fun h => ?_)
    · rw [show i = D by omega]
      exact kk
    · have h := xN (xc_ge _ _) h
      rw [hD, i32_to (by omega), i32_to (by omega)] at h
      omega
  | succ m ih =>
    intro i hi
    refine yp_run 3 (pc' := 9) (lv' := [(0, .ref 25), (1, .int j), (2, .int (itf (ojs H) i a0)), (3, .int (Int32.ofNat i))]) (st' := [.int (s 25 1), .int (Int32.ofNat i)]) (s' := s) rfl ?_
    refine yp_icmp rfl rfl (fun h => ?_) (fun h => ?_)
    · have h := xT (xc_ge _ _) h
      rw [hD, i32_to (by omega), i32_to (by omega)] at h
      omega
    · refine yp_run 3 (pc' := 15) (lv' := [(0, .ref 25), (1, .int j), (2, .int (itf (ojs H) i a0)), (3, .int (Int32.ofNat i))]) (st' := [.int (Int32.ofNat i), .int j, .ref 25]) (s' := s) rfl ?_
      have gH := hH i (by omega)
      refine yp_vi rfl rfl rfl rfl (c_hasv gH ?_)
      refine yp_if rfl rfl (fun h18 => ?_) (fun h18 => ?_)
      · refine yp_run 2 (pc' := 4) (lv' := [(0, .ref 25), (1, .int j), (2, .int (itf (ojs H) i a0)), (3, .int ((Int32.ofNat i) + 1))]) (st' := []) (s' := s) rfl ?_
        have e9 : (itf (ojs H) (i + 1) a0) = (itf (ojs H) i a0) := by
          refine (ojs_eq H i (itf (ojs H) i a0)).trans ?_
          simp only [h18, cond_true, cond_false]
        have e8 := ih (i + 1) (by omega)
        rw [e9] at e8
        rw [i32_s]
        refine yp_sel [0, 1, 2, 3] ?_
        exact e8
      · refine yp_run 3 (pc' := 4) (lv' := [(0, .ref 25), (1, .int j), (2, .int ((itf (ojs H) i a0) + 1)), (3, .int ((Int32.ofNat i) + 1))]) (st' := []) (s' := s) rfl ?_
        have e9 : (itf (ojs H) (i + 1) a0) = ((itf (ojs H) i a0) + 1) := by
          refine (ojs_eq H i (itf (ojs H) i a0)).trans ?_
          simp only [h18, cond_true, cond_false]
        have e8 := ih (i + 1) (by omega)
        rw [e9] at e8
        rw [i32_s]
        refine yp_sel [0, 1, 2, 3] ?_
        exact e8
def shj (H : Nat → Int32) (D : Nat) : Int32 := itf (ojs H) D 0
theorem c_ofJ {j : Int32} {D : Nat} {H : Nat → Int32} (hD5 : D ≤ 5) (hD : s 25 1 = Int32.ofNat D) (hH : ∀ d, d < D → has s j (Int32.ofNat d) = H d) (kk : Φ (some (.int (shj H D))) s) : Yq sd 66 [.ref 25, .int j] s Φ := by
  refine Yq.of rfl (Nat.le_of_ble_eq_true rfl) ?_
  refine yp_run 4 (pc' := 4) (lv' := [(0, .ref 25), (1, .int j), (2, .int 0), (3, .int 0)]) (st' := []) (s' := s) rfl ?_
  refine lz_oj (a0 := 0)  hD5 hD hH ?_ D 0 (Nat.zero_add _)
  refine yp_run 1 (pc' := 31) (lv' := [(0, .ref 25), (1, .int j), (2, .int (itf (ojs H) D 0)), (3, .int (Int32.ofNat D))]) (st' := [.int (itf (ojs H) D 0)]) (s' := s) rfl ?_
  refine yp_ri rfl rfl ?_
  exact kk
def oas (HH : Nat → Nat → Int32) (i : Nat) (a : Int32) : Int32 := (a + (shd (fun j => HH j i)))
theorem oas_eq (HH : Nat → Nat → Int32) (i : Nat) (a : Int32) : oas HH i a = (a + (shd (fun j => HH j i))) := rfl
theorem lz_oa {D : Nat} {HH : Nat → Nat → Int32} {a0 : Int32} (hD5 : D ≤ 5) (hD : s 25 1 = Int32.ofNat D) (hHH : ∀ j d, j < 7 → d < D → has s (Int32.ofNat j) (Int32.ofNat d) = HH j d) (kk : Yp sd 52 26 [(0, .ref 25), (1, .int (itf (oas HH) D a0)), (2, .int (Int32.ofNat D))] [] s Φ) : ∀ m i : Nat, i + m = D → Yp sd 52 4 [(0, .ref 25), (1, .int (itf (oas HH) i a0)), (2, .int (Int32.ofNat i))] [] s Φ := by
  intro m
  induction m with
  | zero =>
    intro i hi
    refine yp_run 3 (pc' := 9) (lv' := [(0, .ref 25), (1, .int (itf (oas HH) i a0)), (2, .int (Int32.ofNat i))]) (st' := [.int (s 25 1), .int (Int32.ofNat i)]) (s' := s) rfl ?_
    refine yp_icmp rfl rfl (fun h => ?_) (fun h => ?_)
    · rw [show i = D by omega]
      exact kk
    · have h := xN (xc_ge _ _) h
      rw [hD, i32_to (by omega), i32_to (by omega)] at h
      omega
  | succ m ih =>
    intro i hi
    refine yp_run 3 (pc' := 9) (lv' := [(0, .ref 25), (1, .int (itf (oas HH) i a0)), (2, .int (Int32.ofNat i))]) (st' := [.int (s 25 1), .int (Int32.ofNat i)]) (s' := s) rfl ?_
    refine yp_icmp rfl rfl (fun h => ?_) (fun h => ?_)
    · have h := xT (xc_ge _ _) h
      rw [hD, i32_to (by omega), i32_to (by omega)] at h
      omega
    · refine yp_run 3 (pc' := 15) (lv' := [(0, .ref 25), (1, .int (itf (oas HH) i a0)), (2, .int (Int32.ofNat i))]) (st' := [.int (Int32.ofNat i), .ref 25, .int (itf (oas HH) i a0)]) (s' := s) rfl ?_
      refine yp_vi rfl rfl rfl rfl (c_ofD (H := fun j => HH j i) (fun j hj => hHH j i hj (by omega)) ?_)
      refine yp_run 4 (pc' := 4) (lv' := [(0, .ref 25), (1, .int ((itf (oas HH) i a0) + (shd (fun j => HH j i)))), (2, .int ((Int32.ofNat i) + 1))]) (st' := []) (s' := s) rfl ?_
      have e9 : (itf (oas HH) (i + 1) a0) = ((itf (oas HH) i a0) + (shd (fun j => HH j i))) := by
        refine (oas_eq HH i (itf (oas HH) i a0)).trans ?_
        rfl
      have e8 := ih (i + 1) (by omega)
      rw [e9] at e8
      rw [i32_s]
      refine yp_sel [0, 1, 2] ?_
      exact e8
def sha (HH : Nat → Nat → Int32) (D : Nat) : Int32 := itf (oas HH) D 0
theorem c_ofA {D : Nat} {HH : Nat → Nat → Int32} (hD5 : D ≤ 5) (hD : s 25 1 = Int32.ofNat D) (hHH : ∀ j d, j < 7 → d < D → has s (Int32.ofNat j) (Int32.ofNat d) = HH j d) (kk : Φ (some (.int (sha HH D))) s) : Yq sd 52 [.ref 25] s Φ := by
  refine Yq.of rfl (Nat.le_of_ble_eq_true rfl) ?_
  refine yp_run 4 (pc' := 4) (lv' := [(0, .ref 25), (1, .int 0), (2, .int 0)]) (st' := []) (s' := s) rfl ?_
  refine lz_oa (a0 := 0)  hD5 hD hHH ?_ D 0 (Nat.zero_add _)
  refine yp_run 1 (pc' := 27) (lv' := [(0, .ref 25), (1, .int (itf (oas HH) D 0)), (2, .int (Int32.ofNat D))]) (st' := [.int (itf (oas HH) D 0)]) (s' := s) rfl ?_
  refine yp_ri rfl rfl ?_
  exact kk
end YY3
