/-! the best by totals, by places, by marks -/
section YL
variable {sd : Option (List Int32)} {μ pc : Nat} {lv : xL} {st : List Value} {s : yS} {Φ : Option Value → yS → Prop}
theorem lz_bt {S : Nat} {n : Nat} {g : Int32} {TT : Nat → Int32} (hS : yss S) (hn : n ≤ 8) (hz : s S 0 = Int32.ofNat n) (hT9 : ∀ p, p < n → s (S + 6) p = TT p) (kk : Yp sd 32 33 [(0, .ref S), (1, .int g), (2, .int (Int32.ofNat n))] [] (wr s (S + 21) 0 n (fun p => -TT p)) Φ) : ∀ m i : Nat, i + m = n → Yp sd 32 2 [(0, .ref S), (1, .int g), (2, .int (Int32.ofNat i))] [] (wr s (S + 21) 0 i (fun p => -TT p)) Φ := by
  intro m
  rcases hS with rfl | rfl
  · have hz : s 30 0 = Int32.ofNat n := hz
    induction m with
    | zero =>
      intro i hi
      obtain ⟨T, hT⟩ : ∃ T, T = (wr s 51 0 i (fun p => -TT p)) := ⟨_, rfl⟩
      rw [← hT]
      have hk : ∀ k, k ≠ 51 → T k = s k := fun k q => by rw [hT]; exact wr_ne q
      have hzT : T 30 0 = Int32.ofNat n := (congrFun (hk 30 (by decide)) 0).trans hz
      refine yp_run 3 (pc' := 7) (lv' := [(0, .ref 30), (1, .int g), (2, .int (Int32.ofNat i))]) (st' := [.int (T 30 0), .int (Int32.ofNat i)]) (s' := T) rfl ?_
      refine yp_icmp rfl rfl (fun h => ?_) (fun h => ?_)
      · rw [hT, show i = n by omega]
        exact kk
      · have h := xN (xc_ge _ _) h
        rw [hzT, i32_to (by omega), i32_to (by omega)] at h
        omega
    | succ m ih =>
      intro i hi
      obtain ⟨T, hT⟩ : ∃ T, T = (wr s 51 0 i (fun p => -TT p)) := ⟨_, rfl⟩
      rw [← hT]
      have hk : ∀ k, k ≠ 51 → T k = s k := fun k q => by rw [hT]; exact wr_ne q
      have hzT : T 30 0 = Int32.ofNat n := (congrFun (hk 30 (by decide)) 0).trans hz
      refine yp_run 3 (pc' := 7) (lv' := [(0, .ref 30), (1, .int g), (2, .int (Int32.ofNat i))]) (st' := [.int (T 30 0), .int (Int32.ofNat i)]) (s' := T) rfl ?_
      refine yp_icmp rfl rfl (fun h => ?_) (fun h => ?_)
      · have h := xT (xc_ge _ _) h
        rw [hzT, i32_to (by omega), i32_to (by omega)] at h
        omega
      · refine yp_run 6 (pc' := 20) (lv' := [(0, .ref 30), (1, .int g), (2, .int (Int32.ofNat i))]) (st' := [.int (Int32.ofNat i), .ref 35, .int (Int32.ofNat i), .ref 50]) (s' := T) rfl ?_
        have gT : rget T 35 (Int32.ofNat i) = TT i := (rget_i (by show i < 8; omega)).trans ((congrFun (hk 36 (by decide)) i).trans (hT9 i (by omega)))
        refine yp_vi rfl rfl rfl rfl (c_rgetv rfl gT ?_)
        refine yp_run 1 (pc' := 24) (lv' := [(0, .ref 30), (1, .int g), (2, .int (Int32.ofNat i))]) (st' := [.int (-(TT i)), .int (Int32.ofNat i), .ref 50]) (s' := T) rfl ?_
        refine yp_vi rfl rfl rfl rfl (c_rset rfl ?_)
        refine yp_run 2 (pc' := 2) (lv' := [(0, .ref 30), (1, .int g), (2, .int ((Int32.ofNat i) + 1))]) (st' := []) (s' := (rset T 50 (Int32.ofNat i) (-(TT i)))) rfl ?_
        have e9 : (rset T 50 (Int32.ofNat i) (-(TT i))) = (wr s 51 0 (i + 1) (fun p => -TT p)) := by
          rw [rset_i (k := 50) (by show i < 8; omega), hT]
          exact wr_s (by omega) (rfl)
        have e8 := ih (i + 1) (by omega)
        rw [e9, i32_s]
        refine yp_sel [0, 1, 2] ?_
        exact e8
  · have hz : s 52 0 = Int32.ofNat n := hz
    induction m with
    | zero =>
      intro i hi
      obtain ⟨T, hT⟩ : ∃ T, T = (wr s 73 0 i (fun p => -TT p)) := ⟨_, rfl⟩
      rw [← hT]
      have hk : ∀ k, k ≠ 73 → T k = s k := fun k q => by rw [hT]; exact wr_ne q
      have hzT : T 52 0 = Int32.ofNat n := (congrFun (hk 52 (by decide)) 0).trans hz
      refine yp_run 3 (pc' := 7) (lv' := [(0, .ref 52), (1, .int g), (2, .int (Int32.ofNat i))]) (st' := [.int (T 52 0), .int (Int32.ofNat i)]) (s' := T) rfl ?_
      refine yp_icmp rfl rfl (fun h => ?_) (fun h => ?_)
      · rw [hT, show i = n by omega]
        exact kk
      · have h := xN (xc_ge _ _) h
        rw [hzT, i32_to (by omega), i32_to (by omega)] at h
        omega
    | succ m ih =>
      intro i hi
      obtain ⟨T, hT⟩ : ∃ T, T = (wr s 73 0 i (fun p => -TT p)) := ⟨_, rfl⟩
      rw [← hT]
      have hk : ∀ k, k ≠ 73 → T k = s k := fun k q => by rw [hT]; exact wr_ne q
      have hzT : T 52 0 = Int32.ofNat n := (congrFun (hk 52 (by decide)) 0).trans hz
      refine yp_run 3 (pc' := 7) (lv' := [(0, .ref 52), (1, .int g), (2, .int (Int32.ofNat i))]) (st' := [.int (T 52 0), .int (Int32.ofNat i)]) (s' := T) rfl ?_
      refine yp_icmp rfl rfl (fun h => ?_) (fun h => ?_)
      · have h := xT (xc_ge _ _) h
        rw [hzT, i32_to (by omega), i32_to (by omega)] at h
        omega
      · refine yp_run 6 (pc' := 20) (lv' := [(0, .ref 52), (1, .int g), (2, .int (Int32.ofNat i))]) (st' := [.int (Int32.ofNat i), .ref 57, .int (Int32.ofNat i), .ref 72]) (s' := T) rfl ?_
        have gT : rget T 57 (Int32.ofNat i) = TT i := (rget_i (by show i < 8; omega)).trans ((congrFun (hk 58 (by decide)) i).trans (hT9 i (by omega)))
        refine yp_vi rfl rfl rfl rfl (c_rgetv rfl gT ?_)
        refine yp_run 1 (pc' := 24) (lv' := [(0, .ref 52), (1, .int g), (2, .int (Int32.ofNat i))]) (st' := [.int (-(TT i)), .int (Int32.ofNat i), .ref 72]) (s' := T) rfl ?_
        refine yp_vi rfl rfl rfl rfl (c_rset rfl ?_)
        refine yp_run 2 (pc' := 2) (lv' := [(0, .ref 52), (1, .int g), (2, .int ((Int32.ofNat i) + 1))]) (st' := []) (s' := (rset T 72 (Int32.ofNat i) (-(TT i)))) rfl ?_
        have e9 : (rset T 72 (Int32.ofNat i) (-(TT i))) = (wr s 73 0 (i + 1) (fun p => -TT p)) := by
          rw [rset_i (k := 72) (by show i < 8; omega), hT]
          exact wr_s (by omega) (rfl)
        have e8 := ih (i + 1) (by omega)
        rw [e9, i32_s]
        refine yp_sel [0, 1, 2] ?_
        exact e8
theorem c_btot {S n : Nat} {g : Int32} {TT : Nat → Int32} (hS : yss S) (hn : n ≤ 8) (hz : s S 0 = Int32.ofNat n) (hT9 : ∀ p, p < n → s (S + 6) p = TT p) (kk : Φ (some (.int (hv g (fun p => -TT p) n))) (wr s (S + 21) 0 n (fun p => -TT p))) : Yq sd 32 [.ref S, .int g] s Φ := by
  refine Yq.of rfl (Nat.le_of_ble_eq_true rfl) ?_
  rcases hS with rfl | rfl
  · have hz : s 30 0 = Int32.ofNat n := hz
    have w1 : Yp sd 32 33 [(0, .ref 30), (1, .int g), (2, .int (Int32.ofNat n))] [] (wr s 51 0 n (fun p => -TT p)) Φ := by
      refine yp_run 2 (pc' := 35) (lv' := [(0, .ref 30), (1, .int g), (2, .int (Int32.ofNat n))]) (st' := [.int g, .ref 30]) (s' := (wr s 51 0 n (fun p => -TT p))) rfl ?_
      refine yp_vi rfl rfl rfl rfl (c_heav (W := fun p => -TT p) (by decide) hn ((congrFun (wr_ne (by decide)) 0).trans hz) (fun p hp => wr_in (Nat.zero_le _) hp) ?_)
      refine yp_ri rfl rfl ?_
      exact kk
    have w2 := lz_bt (by decide) hn hz hT9 w1 n 0 (Nat.zero_add _)
    rw [wr_0] at w2
    refine yp_run 2 (pc' := 2) (lv' := [(0, .ref 30), (1, .int g), (2, .int 0)]) (st' := []) (s' := s) rfl ?_
    exact w2
  · have hz : s 52 0 = Int32.ofNat n := hz
    have w1 : Yp sd 32 33 [(0, .ref 52), (1, .int g), (2, .int (Int32.ofNat n))] [] (wr s 73 0 n (fun p => -TT p)) Φ := by
      refine yp_run 2 (pc' := 35) (lv' := [(0, .ref 52), (1, .int g), (2, .int (Int32.ofNat n))]) (st' := [.int g, .ref 52]) (s' := (wr s 73 0 n (fun p => -TT p))) rfl ?_
      refine yp_vi rfl rfl rfl rfl (c_heav (W := fun p => -TT p) (by decide) hn ((congrFun (wr_ne (by decide)) 0).trans hz) (fun p hp => wr_in (Nat.zero_le _) hp) ?_)
      refine yp_ri rfl rfl ?_
      exact kk
    have w2 := lz_bt (by decide) hn hz hT9 w1 n 0 (Nat.zero_add _)
    rw [wr_0] at w2
    refine yp_run 2 (pc' := 2) (lv' := [(0, .ref 52), (1, .int g), (2, .int 0)]) (st' := []) (s' := s) rfl ?_
    exact w2
end YL
