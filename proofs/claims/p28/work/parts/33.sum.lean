/-! sums of a tally's row -/
section YJ
variable {sd : Option (List Int32)} {μ pc : Nat} {lv : xL} {st : List Value} {s : yS} {Φ : Option Value → yS → Prop}
/-- the sums of numbers up to q, and of their weights -/
def pre (C : Nat → Int32) : Nat → Int32
  | 0 => 0
  | q + 1 => pre C q + C (q + 1)
def prw (C : Nat → Int32) : Nat → Int32
  | 0 => 0
  | q + 1 => prw C q + C (q + 1) * (1000 - Int32.ofNat (q + 1))
def sumSt (s : yS) (S R i : Nat) (C : Nat → Int32) : yS := wr (wr s (S + 13) (R * 9 + 1) (R * 9 + 1 + i) (fun j => pre C (j - R * 9))) (S + 15) (R * 9 + 1) (R * 9 + 1 + i) (fun j => prw C (j - R * 9))
theorem sumSt_0 (s : yS) (S R : Nat) (C : Nat → Int32) : sumSt s S R 0 C = s := by
  unfold sumSt
  rw [Nat.add_zero, wr_0, wr_0]
theorem sumSt_s {s : yS} {S R i : Nat} {C : Nat → Int32} {v w : Int32} (hv : v = pre C (i + 1)) (hw : w = prw C (i + 1)) : yup (yup (sumSt s S R i C) (S + 13) (R * 9 + (i + 1)) v) (S + 15) (R * 9 + (i + 1)) w = sumSt s S R (i + 1) C := by
  unfold sumSt
  rw [show R * 9 + (i + 1) = R * 9 + 1 + i by omega, yup_wr (by omega), wr_s (by omega) (by rw [hw]; congr 1; omega), wr_s (by omega) (by rw [hv]; congr 1; omega)]
  rfl
theorem lz_sum {S n R : Nat} {C : Nat → Int32} (hS : yss S) (hn : n ≤ 8) (hR : R < 40) (hw : s (S + 11) 0 = Int32.ofNat n) (hC : ∀ q, 1 ≤ q → q ≤ n → C q = s (S + 13) (R * 9 + q)) (kk : Φ none (sumSt s S R n C)) : ∀ m i : Nat, i + m = n →
    Yp sd 19 7 [(0, .ref (S + 11)), (1, .int (Int32.ofNat R)), (2, .int (pre C i)), (3, .int (prw C i)), (4, .int (Int32.ofNat (i + 1)))] [] (sumSt s S R i C) Φ := by
  intro m
  rcases hS with rfl | rfl
  · have hw : s 41 0 = Int32.ofNat n := hw
    induction m with
    | zero =>
      intro i hi
      obtain ⟨T, hT⟩ : ∃ T, T = sumSt s 30 R i C := ⟨_, rfl⟩
      rw [← hT]
      have h0 : T 41 0 = Int32.ofNat n := by rw [hT]; exact hw
      refine yp_run 3 (pc' := 13) (lv' := [(0, .ref 41), (1, .int (Int32.ofNat R)), (2, .int (pre C i)), (3, .int (prw C i)), (4, .int (Int32.ofNat (i + 1)))]) (st' := [.int (T 41 0), .int (Int32.ofNat (i + 1))]) (s' := T) rfl ?_
      refine yp_icmp rfl rfl (fun h => ?_) (fun h => ?_)
      · refine yp_rv rfl rfl ?_
        rw [hT, show i = n by omega]
        exact kk
      · have h := xN (xc_gt _ _) h
        rw [h0, i32_to (by omega), i32_to (by omega)] at h
        omega
    | succ m ih =>
      intro i hi
      obtain ⟨T, hT⟩ : ∃ T, T = sumSt s 30 R i C := ⟨_, rfl⟩
      rw [← hT]
      have h0 : T 41 0 = Int32.ofNat n := by rw [hT]; exact hw
      refine yp_run 3 (pc' := 13) (lv' := [(0, .ref 41), (1, .int (Int32.ofNat R)), (2, .int (pre C i)), (3, .int (prw C i)), (4, .int (Int32.ofNat (i + 1)))]) (st' := [.int (T 41 0), .int (Int32.ofNat (i + 1))]) (s' := T) rfl ?_
      refine yp_icmp rfl rfl (fun h => ?_) (fun h => ?_)
      · have h := xT (xc_gt _ _) h
        rw [h0, i32_to (by omega), i32_to (by omega)] at h
        omega
      · refine yp_run 4 (pc' := 23) (lv' := [(0, .ref 41), (1, .int (Int32.ofNat R)), (2, .int (pre C i)), (3, .int (prw C i)), (4, .int (Int32.ofNat (i + 1)))]) (st' := [.int (Int32.ofNat (i + 1)), .int (Int32.ofNat R), .ref 42]) (s' := T) rfl ?_
        refine yp_vi rfl rfl rfl rfl (c_gget rfl ?_)
        refine yp_run 18 (pc' := 53) (lv' := [(0, .ref 41), (1, .int (Int32.ofNat R)), (2, .int ((pre C i) + (gget T 42 (Int32.ofNat R) (Int32.ofNat (i + 1))))), (3, .int ((prw C i) + ((gget T 42 (Int32.ofNat R) (Int32.ofNat (i + 1))) * (1000 - (Int32.ofNat (i + 1)))))), (4, .int (Int32.ofNat (i + 1))), (5, .int (gget T 42 (Int32.ofNat R) (Int32.ofNat (i + 1))))]) (st' := [.int ((pre C i) + (gget T 42 (Int32.ofNat R) (Int32.ofNat (i + 1)))), .int (Int32.ofNat (i + 1)), .int (Int32.ofNat R), .ref 42]) (s' := T) rfl ?_
        refine yp_vi rfl rfl rfl rfl (c_gset rfl ?_)
        refine yp_run 5 (pc' := 64) (lv' := [(0, .ref 41), (1, .int (Int32.ofNat R)), (2, .int ((pre C i) + (gget T 42 (Int32.ofNat R) (Int32.ofNat (i + 1))))), (3, .int ((prw C i) + ((gget T 42 (Int32.ofNat R) (Int32.ofNat (i + 1))) * (1000 - (Int32.ofNat (i + 1)))))), (4, .int (Int32.ofNat (i + 1))), (5, .int (gget T 42 (Int32.ofNat R) (Int32.ofNat (i + 1))))]) (st' := [.int ((prw C i) + ((gget T 42 (Int32.ofNat R) (Int32.ofNat (i + 1))) * (1000 - (Int32.ofNat (i + 1))))), .int (Int32.ofNat (i + 1)), .int (Int32.ofNat R), .ref 44]) (s' := (gset T 42 (Int32.ofNat R) (Int32.ofNat (i + 1)) ((pre C i) + (gget T 42 (Int32.ofNat R) (Int32.ofNat (i + 1)))))) rfl ?_
        refine yp_vi rfl rfl rfl rfl (c_gset rfl ?_)
        refine yp_run 2 (pc' := 7) (lv' := [(0, .ref 41), (1, .int (Int32.ofNat R)), (2, .int ((pre C i) + (gget T 42 (Int32.ofNat R) (Int32.ofNat (i + 1))))), (3, .int ((prw C i) + ((gget T 42 (Int32.ofNat R) (Int32.ofNat (i + 1))) * (1000 - (Int32.ofNat (i + 1)))))), (4, .int ((Int32.ofNat (i + 1)) + 1)), (5, .int (gget T 42 (Int32.ofNat R) (Int32.ofNat (i + 1))))]) (st' := []) (s' := (gset (gset T 42 (Int32.ofNat R) (Int32.ofNat (i + 1)) ((pre C i) + (gget T 42 (Int32.ofNat R) (Int32.ofNat (i + 1))))) 44 (Int32.ofNat R) (Int32.ofNat (i + 1)) ((prw C i) + ((gget T 42 (Int32.ofNat R) (Int32.ofNat (i + 1))) * (1000 - (Int32.ofNat (i + 1))))))) rfl ?_
        have g1 : gget T 42 (Int32.ofNat R) (Int32.ofNat (i + 1)) = C (i + 1) := by
          refine (gget_i (k := 42) (by show i + 1 < 9; omega) (by decide) (by show R * 9 + (i + 1) < 360; omega)).trans ?_
          show T 43 (R * 9 + (i + 1)) = _
          rw [hT]
          show sumSt s 30 R i C 43 (R * 9 + (i + 1)) = _
          unfold sumSt
          rw [wr_ne (by omega), wr_out (by omega)]
          exact (hC (i + 1) (by omega) (by omega)).symm
        rw [g1, i32_s]
        have e1 : ∀ v : Int32, gset T 42 (Int32.ofNat R) (Int32.ofNat (i + 1)) v = yup T 43 (R * 9 + (i + 1)) v := fun v => gset_i (k := 42) (by show i + 1 < 9; omega) (by decide) (by show R * 9 + (i + 1) < 360; omega)
        have e2 : ∀ (U : yS) (v : Int32), gset U 44 (Int32.ofNat R) (Int32.ofNat (i + 1)) v = yup U 45 (R * 9 + (i + 1)) v := fun U v => gset_i (k := 44) (by show i + 1 < 9; omega) (by decide) (by show R * 9 + (i + 1) < 360; omega)
        rw [e1, e2, hT]
        have e3 := sumSt_s (s := s) (S := 30) (R := R) (i := i) (C := C) rfl rfl
        have e4 := ih (i + 1) (by omega)
        rw [← e3] at e4
        refine yp_sel [0, 1, 2, 3, 4] ?_
        exact e4
  · have hw : s 63 0 = Int32.ofNat n := hw
    induction m with
    | zero =>
      intro i hi
      obtain ⟨T, hT⟩ : ∃ T, T = sumSt s 52 R i C := ⟨_, rfl⟩
      rw [← hT]
      have h0 : T 63 0 = Int32.ofNat n := by rw [hT]; exact hw
      refine yp_run 3 (pc' := 13) (lv' := [(0, .ref 63), (1, .int (Int32.ofNat R)), (2, .int (pre C i)), (3, .int (prw C i)), (4, .int (Int32.ofNat (i + 1)))]) (st' := [.int (T 63 0), .int (Int32.ofNat (i + 1))]) (s' := T) rfl ?_
      refine yp_icmp rfl rfl (fun h => ?_) (fun h => ?_)
      · refine yp_rv rfl rfl ?_
        rw [hT, show i = n by omega]
        exact kk
      · have h := xN (xc_gt _ _) h
        rw [h0, i32_to (by omega), i32_to (by omega)] at h
        omega
    | succ m ih =>
      intro i hi
      obtain ⟨T, hT⟩ : ∃ T, T = sumSt s 52 R i C := ⟨_, rfl⟩
      rw [← hT]
      have h0 : T 63 0 = Int32.ofNat n := by rw [hT]; exact hw
      refine yp_run 3 (pc' := 13) (lv' := [(0, .ref 63), (1, .int (Int32.ofNat R)), (2, .int (pre C i)), (3, .int (prw C i)), (4, .int (Int32.ofNat (i + 1)))]) (st' := [.int (T 63 0), .int (Int32.ofNat (i + 1))]) (s' := T) rfl ?_
      refine yp_icmp rfl rfl (fun h => ?_) (fun h => ?_)
      · have h := xT (xc_gt _ _) h
        rw [h0, i32_to (by omega), i32_to (by omega)] at h
        omega
      · refine yp_run 4 (pc' := 23) (lv' := [(0, .ref 63), (1, .int (Int32.ofNat R)), (2, .int (pre C i)), (3, .int (prw C i)), (4, .int (Int32.ofNat (i + 1)))]) (st' := [.int (Int32.ofNat (i + 1)), .int (Int32.ofNat R), .ref 64]) (s' := T) rfl ?_
        refine yp_vi rfl rfl rfl rfl (c_gget rfl ?_)
        refine yp_run 18 (pc' := 53) (lv' := [(0, .ref 63), (1, .int (Int32.ofNat R)), (2, .int ((pre C i) + (gget T 64 (Int32.ofNat R) (Int32.ofNat (i + 1))))), (3, .int ((prw C i) + ((gget T 64 (Int32.ofNat R) (Int32.ofNat (i + 1))) * (1000 - (Int32.ofNat (i + 1)))))), (4, .int (Int32.ofNat (i + 1))), (5, .int (gget T 64 (Int32.ofNat R) (Int32.ofNat (i + 1))))]) (st' := [.int ((pre C i) + (gget T 64 (Int32.ofNat R) (Int32.ofNat (i + 1)))), .int (Int32.ofNat (i + 1)), .int (Int32.ofNat R), .ref 64]) (s' := T) rfl ?_
        refine yp_vi rfl rfl rfl rfl (c_gset rfl ?_)
        refine yp_run 5 (pc' := 64) (lv' := [(0, .ref 63), (1, .int (Int32.ofNat R)), (2, .int ((pre C i) + (gget T 64 (Int32.ofNat R) (Int32.ofNat (i + 1))))), (3, .int ((prw C i) + ((gget T 64 (Int32.ofNat R) (Int32.ofNat (i + 1))) * (1000 - (Int32.ofNat (i + 1)))))), (4, .int (Int32.ofNat (i + 1))), (5, .int (gget T 64 (Int32.ofNat R) (Int32.ofNat (i + 1))))]) (st' := [.int ((prw C i) + ((gget T 64 (Int32.ofNat R) (Int32.ofNat (i + 1))) * (1000 - (Int32.ofNat (i + 1))))), .int (Int32.ofNat (i + 1)), .int (Int32.ofNat R), .ref 66]) (s' := (gset T 64 (Int32.ofNat R) (Int32.ofNat (i + 1)) ((pre C i) + (gget T 64 (Int32.ofNat R) (Int32.ofNat (i + 1)))))) rfl ?_
        refine yp_vi rfl rfl rfl rfl (c_gset rfl ?_)
        refine yp_run 2 (pc' := 7) (lv' := [(0, .ref 63), (1, .int (Int32.ofNat R)), (2, .int ((pre C i) + (gget T 64 (Int32.ofNat R) (Int32.ofNat (i + 1))))), (3, .int ((prw C i) + ((gget T 64 (Int32.ofNat R) (Int32.ofNat (i + 1))) * (1000 - (Int32.ofNat (i + 1)))))), (4, .int ((Int32.ofNat (i + 1)) + 1)), (5, .int (gget T 64 (Int32.ofNat R) (Int32.ofNat (i + 1))))]) (st' := []) (s' := (gset (gset T 64 (Int32.ofNat R) (Int32.ofNat (i + 1)) ((pre C i) + (gget T 64 (Int32.ofNat R) (Int32.ofNat (i + 1))))) 66 (Int32.ofNat R) (Int32.ofNat (i + 1)) ((prw C i) + ((gget T 64 (Int32.ofNat R) (Int32.ofNat (i + 1))) * (1000 - (Int32.ofNat (i + 1))))))) rfl ?_
        have g1 : gget T 64 (Int32.ofNat R) (Int32.ofNat (i + 1)) = C (i + 1) := by
          refine (gget_i (k := 64) (by show i + 1 < 9; omega) (by decide) (by show R * 9 + (i + 1) < 360; omega)).trans ?_
          show T 65 (R * 9 + (i + 1)) = _
          rw [hT]
          show sumSt s 52 R i C 65 (R * 9 + (i + 1)) = _
          unfold sumSt
          rw [wr_ne (by omega), wr_out (by omega)]
          exact (hC (i + 1) (by omega) (by omega)).symm
        rw [g1, i32_s]
        have e1 : ∀ v : Int32, gset T 64 (Int32.ofNat R) (Int32.ofNat (i + 1)) v = yup T 65 (R * 9 + (i + 1)) v := fun v => gset_i (k := 64) (by show i + 1 < 9; omega) (by decide) (by show R * 9 + (i + 1) < 360; omega)
        have e2 : ∀ (U : yS) (v : Int32), gset U 66 (Int32.ofNat R) (Int32.ofNat (i + 1)) v = yup U 67 (R * 9 + (i + 1)) v := fun U v => gset_i (k := 66) (by show i + 1 < 9; omega) (by decide) (by show R * 9 + (i + 1) < 360; omega)
        rw [e1, e2, hT]
        have e3 := sumSt_s (s := s) (S := 52) (R := R) (i := i) (C := C) rfl rfl
        have e4 := ih (i + 1) (by omega)
        rw [← e3] at e4
        refine yp_sel [0, 1, 2, 3, 4] ?_
        exact e4
theorem c_sum {S n R : Nat} {C : Nat → Int32} (hS : yss S) (hn : n ≤ 8) (hR : R < 40) (hw : s (S + 11) 0 = Int32.ofNat n) (hC : ∀ q, 1 ≤ q → q ≤ n → C q = s (S + 13) (R * 9 + q)) (kk : Φ none (sumSt s S R n C)) : Yq sd 19 [.ref (S + 11), .int (Int32.ofNat R)] s Φ := by
  refine Yq.of rfl (Nat.le_of_ble_eq_true rfl) ?_
  rcases hS with rfl | rfl
  · refine yp_run 6 (pc' := 7) (lv' := [(0, .ref 41), (1, .int (Int32.ofNat R)), (2, .int 0), (3, .int 0), (4, .int (Int32.ofNat (0 + 1)))]) (st' := []) (s' := s) rfl ?_
    have := lz_sum (sd := sd) (S := 30) (by decide) hn hR hw hC kk n 0 (Nat.zero_add n)
    rw [sumSt_0] at this
    exact this
  · refine yp_run 6 (pc' := 7) (lv' := [(0, .ref 63), (1, .int (Int32.ofNat R)), (2, .int 0), (3, .int 0), (4, .int (Int32.ofNat (0 + 1)))]) (st' := []) (s' := s) rfl ?_
    have := lz_sum (sd := sd) (S := 52) (by decide) hn hR hw hC kk n 0 (Nat.zero_add n)
    rw [sumSt_0] at this
    exact this
end YJ
