/-! the best by places, by marks -/
section YN2
variable {sd : Option (List Int32)} {μ pc : Nat} {lv : xL} {st : List Value} {s : yS} {Φ : Option Value → yS → Prop}
def wps (PL : Nat → Int32) (r : Int32) (i : Nat) (a : Int32) : Int32 := (bif xcmp .gt (PL i) (2 * r) then (a + 0) else (a + (1000 - (PL i))))
theorem wps_eq (PL : Nat → Int32) (r : Int32) (i : Nat) (a : Int32) : wps PL r i a = (bif xcmp .gt (PL i) (2 * r) then (a + 0) else (a + (1000 - (PL i)))) := rfl
theorem lz_wp {S : Nat} {D : Nat} {PL : Nat → Int32} {r : Int32} {a0 : Int32} {p : Nat} {g : Int32} (hS : yss S) (hp : p < 8) (hD : D ≤ 5) (hd : s S 1 = Int32.ofNat D) (hP : ∀ d, d < D → s (S + 2) (d * 8 + p) = PL d) (kk : Yp sd 35 66 [(0, .ref S), (1, .int g), (2, .int r), (3, .int (Int32.ofNat p)), (4, .int (itf (wps PL r) D a0)), (5, .int (Int32.ofNat D))] [] s Φ) : ∀ m i : Nat, i + m = D → Yp sd 35 16 [(0, .ref S), (1, .int g), (2, .int r), (3, .int (Int32.ofNat p)), (4, .int (itf (wps PL r) i a0)), (5, .int (Int32.ofNat i))] [] s Φ := by
  intro m
  rcases hS with rfl | rfl
  · have hd : s 30 1 = Int32.ofNat D := hd
    induction m with
    | zero =>
      intro i hi
      refine yp_run 3 (pc' := 22) (lv' := [(0, .ref 30), (1, .int g), (2, .int r), (3, .int (Int32.ofNat p)), (4, .int (itf (wps PL r) i a0)), (5, .int (Int32.ofNat i))]) (st' := [.int (s 30 1), .int (Int32.ofNat i)]) (s' := s) rfl ?_
      refine yp_icmp rfl rfl (fun h => ?_) (fun h => ?_)
      · rw [show i = D by omega]
        exact kk
      · have h := xN (xc_ge _ _) h
        rw [hd, i32_to (by omega), i32_to (by omega)] at h
        omega
    | succ m ih =>
      intro i hi
      refine yp_run 3 (pc' := 22) (lv' := [(0, .ref 30), (1, .int g), (2, .int r), (3, .int (Int32.ofNat p)), (4, .int (itf (wps PL r) i a0)), (5, .int (Int32.ofNat i))]) (st' := [.int (s 30 1), .int (Int32.ofNat i)]) (s' := s) rfl ?_
      refine yp_icmp rfl rfl (fun h => ?_) (fun h => ?_)
      · have h := xT (xc_ge _ _) h
        rw [hd, i32_to (by omega), i32_to (by omega)] at h
        omega
      · refine yp_run 4 (pc' := 32) (lv' := [(0, .ref 30), (1, .int g), (2, .int r), (3, .int (Int32.ofNat p)), (4, .int (itf (wps PL r) i a0)), (5, .int (Int32.ofNat i))]) (st' := [.int (Int32.ofNat p), .int (Int32.ofNat i), .ref 31]) (s' := s) rfl ?_
        have gP : gget s 31 (Int32.ofNat i) (Int32.ofNat p) = PL i := (gget_i (k := 31) (by show p < 8; omega) (by decide) (by show i * 8 + p < 40; omega)).trans (hP i (by omega))
        refine yp_vi rfl rfl rfl rfl (c_ggetv rfl gP ?_)
        refine yp_run 6 (pc' := 44) (lv' := [(0, .ref 30), (1, .int g), (2, .int r), (3, .int (Int32.ofNat p)), (4, .int (itf (wps PL r) i a0)), (5, .int (Int32.ofNat i)), (6, .int (PL i))]) (st' := [.int (2 * r), .int (PL i), .int (itf (wps PL r) i a0)]) (s' := s) rfl ?_
        refine yp_icmp rfl rfl (fun h44 => ?_) (fun h44 => ?_)
        · refine yp_run 5 (pc' := 16) (lv' := [(0, .ref 30), (1, .int g), (2, .int r), (3, .int (Int32.ofNat p)), (4, .int ((itf (wps PL r) i a0) + 0)), (5, .int ((Int32.ofNat i) + 1)), (6, .int (PL i))]) (st' := []) (s' := s) rfl ?_
          have e9 : (itf (wps PL r) (i + 1) a0) = ((itf (wps PL r) i a0) + 0) := by
            refine (wps_eq PL r i (itf (wps PL r) i a0)).trans ?_
            simp only [h44, cond_true, cond_false]
          have e8 := ih (i + 1) (by omega)
          rw [e9] at e8
          rw [i32_s]
          refine yp_sel [0, 1, 2, 3, 4, 5] ?_
          exact e8
        · refine yp_run 8 (pc' := 16) (lv' := [(0, .ref 30), (1, .int g), (2, .int r), (3, .int (Int32.ofNat p)), (4, .int ((itf (wps PL r) i a0) + (1000 - (PL i)))), (5, .int ((Int32.ofNat i) + 1)), (6, .int (PL i))]) (st' := []) (s' := s) rfl ?_
          have e9 : (itf (wps PL r) (i + 1) a0) = ((itf (wps PL r) i a0) + (1000 - (PL i))) := by
            refine (wps_eq PL r i (itf (wps PL r) i a0)).trans ?_
            simp only [h44, cond_true, cond_false]
          have e8 := ih (i + 1) (by omega)
          rw [e9] at e8
          rw [i32_s]
          refine yp_sel [0, 1, 2, 3, 4, 5] ?_
          exact e8
  · have hd : s 52 1 = Int32.ofNat D := hd
    induction m with
    | zero =>
      intro i hi
      refine yp_run 3 (pc' := 22) (lv' := [(0, .ref 52), (1, .int g), (2, .int r), (3, .int (Int32.ofNat p)), (4, .int (itf (wps PL r) i a0)), (5, .int (Int32.ofNat i))]) (st' := [.int (s 52 1), .int (Int32.ofNat i)]) (s' := s) rfl ?_
      refine yp_icmp rfl rfl (fun h => ?_) (fun h => ?_)
      · rw [show i = D by omega]
        exact kk
      · have h := xN (xc_ge _ _) h
        rw [hd, i32_to (by omega), i32_to (by omega)] at h
        omega
    | succ m ih =>
      intro i hi
      refine yp_run 3 (pc' := 22) (lv' := [(0, .ref 52), (1, .int g), (2, .int r), (3, .int (Int32.ofNat p)), (4, .int (itf (wps PL r) i a0)), (5, .int (Int32.ofNat i))]) (st' := [.int (s 52 1), .int (Int32.ofNat i)]) (s' := s) rfl ?_
      refine yp_icmp rfl rfl (fun h => ?_) (fun h => ?_)
      · have h := xT (xc_ge _ _) h
        rw [hd, i32_to (by omega), i32_to (by omega)] at h
        omega
      · refine yp_run 4 (pc' := 32) (lv' := [(0, .ref 52), (1, .int g), (2, .int r), (3, .int (Int32.ofNat p)), (4, .int (itf (wps PL r) i a0)), (5, .int (Int32.ofNat i))]) (st' := [.int (Int32.ofNat p), .int (Int32.ofNat i), .ref 53]) (s' := s) rfl ?_
        have gP : gget s 53 (Int32.ofNat i) (Int32.ofNat p) = PL i := (gget_i (k := 53) (by show p < 8; omega) (by decide) (by show i * 8 + p < 40; omega)).trans (hP i (by omega))
        refine yp_vi rfl rfl rfl rfl (c_ggetv rfl gP ?_)
        refine yp_run 6 (pc' := 44) (lv' := [(0, .ref 52), (1, .int g), (2, .int r), (3, .int (Int32.ofNat p)), (4, .int (itf (wps PL r) i a0)), (5, .int (Int32.ofNat i)), (6, .int (PL i))]) (st' := [.int (2 * r), .int (PL i), .int (itf (wps PL r) i a0)]) (s' := s) rfl ?_
        refine yp_icmp rfl rfl (fun h44 => ?_) (fun h44 => ?_)
        · refine yp_run 5 (pc' := 16) (lv' := [(0, .ref 52), (1, .int g), (2, .int r), (3, .int (Int32.ofNat p)), (4, .int ((itf (wps PL r) i a0) + 0)), (5, .int ((Int32.ofNat i) + 1)), (6, .int (PL i))]) (st' := []) (s' := s) rfl ?_
          have e9 : (itf (wps PL r) (i + 1) a0) = ((itf (wps PL r) i a0) + 0) := by
            refine (wps_eq PL r i (itf (wps PL r) i a0)).trans ?_
            simp only [h44, cond_true, cond_false]
          have e8 := ih (i + 1) (by omega)
          rw [e9] at e8
          rw [i32_s]
          refine yp_sel [0, 1, 2, 3, 4, 5] ?_
          exact e8
        · refine yp_run 8 (pc' := 16) (lv' := [(0, .ref 52), (1, .int g), (2, .int r), (3, .int (Int32.ofNat p)), (4, .int ((itf (wps PL r) i a0) + (1000 - (PL i)))), (5, .int ((Int32.ofNat i) + 1)), (6, .int (PL i))]) (st' := []) (s' := s) rfl ?_
          have e9 : (itf (wps PL r) (i + 1) a0) = ((itf (wps PL r) i a0) + (1000 - (PL i))) := by
            refine (wps_eq PL r i (itf (wps PL r) i a0)).trans ?_
            simp only [h44, cond_true, cond_false]
          have e8 := ih (i + 1) (by omega)
          rw [e9] at e8
          rw [i32_s]
          refine yp_sel [0, 1, 2, 3, 4, 5] ?_
          exact e8
theorem lz_bp {S : Nat} {n : Nat} {g : Int32} {r : Int32} {PL : Nat → Nat → Int32} {D : Nat} (hS : yss S) (hn : n ≤ 8) (hD : D ≤ 5) (hz : s S 0 = Int32.ofNat n) (hd : s S 1 = Int32.ofNat D) (hP : ∀ d p, d < D → p < n → s (S + 2) (d * 8 + p) = PL d p) (kk : Yp sd 35 82 [(0, .ref S), (1, .int g), (2, .int r), (3, .int (Int32.ofNat n))] [] (wr s (S + 21) 0 n (fun p => itf (wps (fun d => PL d p) r) D 0)) Φ) : ∀ m i : Nat, i + m = n → Yp sd 35 2 [(0, .ref S), (1, .int g), (2, .int r), (3, .int (Int32.ofNat i))] [] (wr s (S + 21) 0 i (fun p => itf (wps (fun d => PL d p) r) D 0)) Φ := by
  intro m
  rcases hS with rfl | rfl
  · have hz : s 30 0 = Int32.ofNat n := hz
    have hd : s 30 1 = Int32.ofNat D := hd
    induction m with
    | zero =>
      intro i hi
      obtain ⟨T, hT⟩ : ∃ T, T = (wr s 51 0 i (fun p => itf (wps (fun d => PL d p) r) D 0)) := ⟨_, rfl⟩
      rw [← hT]
      have hk : ∀ k, k ≠ 51 → T k = s k := fun k q => by rw [hT]; exact wr_ne q
      have hzT : T 30 0 = Int32.ofNat n := (congrFun (hk 30 (by decide)) 0).trans hz
      have hdT : T 30 1 = Int32.ofNat D := (congrFun (hk 30 (by decide)) 1).trans hd
      refine yp_run 3 (pc' := 7) (lv' := [(0, .ref 30), (1, .int g), (2, .int r), (3, .int (Int32.ofNat i))]) (st' := [.int (T 30 0), .int (Int32.ofNat i)]) (s' := T) rfl ?_
      refine yp_icmp rfl rfl (fun h => ?_) (fun h => ?_)
      · rw [hT, show i = n by omega]
        exact kk
      · have h := xN (xc_ge _ _) h
        rw [hzT, i32_to (by omega), i32_to (by omega)] at h
        omega
    | succ m ih =>
      intro i hi
      obtain ⟨T, hT⟩ : ∃ T, T = (wr s 51 0 i (fun p => itf (wps (fun d => PL d p) r) D 0)) := ⟨_, rfl⟩
      rw [← hT]
      have hk : ∀ k, k ≠ 51 → T k = s k := fun k q => by rw [hT]; exact wr_ne q
      have hzT : T 30 0 = Int32.ofNat n := (congrFun (hk 30 (by decide)) 0).trans hz
      have hdT : T 30 1 = Int32.ofNat D := (congrFun (hk 30 (by decide)) 1).trans hd
      refine yp_run 3 (pc' := 7) (lv' := [(0, .ref 30), (1, .int g), (2, .int r), (3, .int (Int32.ofNat i))]) (st' := [.int (T 30 0), .int (Int32.ofNat i)]) (s' := T) rfl ?_
      refine yp_icmp rfl rfl (fun h => ?_) (fun h => ?_)
      · have h := xT (xc_ge _ _) h
        rw [hzT, i32_to (by omega), i32_to (by omega)] at h
        omega
      · refine yp_run 4 (pc' := 16) (lv' := [(0, .ref 30), (1, .int g), (2, .int r), (3, .int (Int32.ofNat i)), (4, .int 0), (5, .int 0)]) (st' := []) (s' := T) rfl ?_
        refine lz_wp (a0 := 0) (PL := (fun d => PL d i)) (by decide) (by omega) hD hdT (fun d hd9 => (congrFun (hk 32 (by decide)) _).trans (hP d i hd9 (by omega))) ?_ D 0 (Nat.zero_add _)
        refine yp_run 4 (pc' := 73) (lv' := [(0, .ref 30), (1, .int g), (2, .int r), (3, .int (Int32.ofNat i)), (4, .int (itf (wps (fun d => PL d i) r) D 0)), (5, .int (Int32.ofNat D))]) (st' := [.int (itf (wps (fun d => PL d i) r) D 0), .int (Int32.ofNat i), .ref 50]) (s' := T) rfl ?_
        refine yp_vi rfl rfl rfl rfl (c_rset rfl ?_)
        refine yp_run 2 (pc' := 2) (lv' := [(0, .ref 30), (1, .int g), (2, .int r), (3, .int ((Int32.ofNat i) + 1)), (4, .int (itf (wps (fun d => PL d i) r) D 0)), (5, .int (Int32.ofNat D))]) (st' := []) (s' := (rset T 50 (Int32.ofNat i) (itf (wps (fun d => PL d i) r) D 0))) rfl ?_
        have e9 : (rset T 50 (Int32.ofNat i) (itf (wps (fun d => PL d i) r) D 0)) = (wr s 51 0 (i + 1) (fun p => itf (wps (fun d => PL d p) r) D 0)) := by
          rw [rset_i (k := 50) (by show i < 8; omega), hT]
          exact wr_s (by omega) (rfl)
        have e8 := ih (i + 1) (by omega)
        rw [e9, i32_s]
        refine yp_sel [0, 1, 2, 3] ?_
        exact e8
  · have hz : s 52 0 = Int32.ofNat n := hz
    have hd : s 52 1 = Int32.ofNat D := hd
    induction m with
    | zero =>
      intro i hi
      obtain ⟨T, hT⟩ : ∃ T, T = (wr s 73 0 i (fun p => itf (wps (fun d => PL d p) r) D 0)) := ⟨_, rfl⟩
      rw [← hT]
      have hk : ∀ k, k ≠ 73 → T k = s k := fun k q => by rw [hT]; exact wr_ne q
      have hzT : T 52 0 = Int32.ofNat n := (congrFun (hk 52 (by decide)) 0).trans hz
      have hdT : T 52 1 = Int32.ofNat D := (congrFun (hk 52 (by decide)) 1).trans hd
      refine yp_run 3 (pc' := 7) (lv' := [(0, .ref 52), (1, .int g), (2, .int r), (3, .int (Int32.ofNat i))]) (st' := [.int (T 52 0), .int (Int32.ofNat i)]) (s' := T) rfl ?_
      refine yp_icmp rfl rfl (fun h => ?_) (fun h => ?_)
      · rw [hT, show i = n by omega]
        exact kk
      · have h := xN (xc_ge _ _) h
        rw [hzT, i32_to (by omega), i32_to (by omega)] at h
        omega
    | succ m ih =>
      intro i hi
      obtain ⟨T, hT⟩ : ∃ T, T = (wr s 73 0 i (fun p => itf (wps (fun d => PL d p) r) D 0)) := ⟨_, rfl⟩
      rw [← hT]
      have hk : ∀ k, k ≠ 73 → T k = s k := fun k q => by rw [hT]; exact wr_ne q
      have hzT : T 52 0 = Int32.ofNat n := (congrFun (hk 52 (by decide)) 0).trans hz
      have hdT : T 52 1 = Int32.ofNat D := (congrFun (hk 52 (by decide)) 1).trans hd
      refine yp_run 3 (pc' := 7) (lv' := [(0, .ref 52), (1, .int g), (2, .int r), (3, .int (Int32.ofNat i))]) (st' := [.int (T 52 0), .int (Int32.ofNat i)]) (s' := T) rfl ?_
      refine yp_icmp rfl rfl (fun h => ?_) (fun h => ?_)
      · have h := xT (xc_ge _ _) h
        rw [hzT, i32_to (by omega), i32_to (by omega)] at h
        omega
      · refine yp_run 4 (pc' := 16) (lv' := [(0, .ref 52), (1, .int g), (2, .int r), (3, .int (Int32.ofNat i)), (4, .int 0), (5, .int 0)]) (st' := []) (s' := T) rfl ?_
        refine lz_wp (a0 := 0) (PL := (fun d => PL d i)) (by decide) (by omega) hD hdT (fun d hd9 => (congrFun (hk 54 (by decide)) _).trans (hP d i hd9 (by omega))) ?_ D 0 (Nat.zero_add _)
        refine yp_run 4 (pc' := 73) (lv' := [(0, .ref 52), (1, .int g), (2, .int r), (3, .int (Int32.ofNat i)), (4, .int (itf (wps (fun d => PL d i) r) D 0)), (5, .int (Int32.ofNat D))]) (st' := [.int (itf (wps (fun d => PL d i) r) D 0), .int (Int32.ofNat i), .ref 72]) (s' := T) rfl ?_
        refine yp_vi rfl rfl rfl rfl (c_rset rfl ?_)
        refine yp_run 2 (pc' := 2) (lv' := [(0, .ref 52), (1, .int g), (2, .int r), (3, .int ((Int32.ofNat i) + 1)), (4, .int (itf (wps (fun d => PL d i) r) D 0)), (5, .int (Int32.ofNat D))]) (st' := []) (s' := (rset T 72 (Int32.ofNat i) (itf (wps (fun d => PL d i) r) D 0))) rfl ?_
        have e9 : (rset T 72 (Int32.ofNat i) (itf (wps (fun d => PL d i) r) D 0)) = (wr s 73 0 (i + 1) (fun p => itf (wps (fun d => PL d p) r) D 0)) := by
          rw [rset_i (k := 72) (by show i < 8; omega), hT]
          exact wr_s (by omega) (rfl)
        have e8 := ih (i + 1) (by omega)
        rw [e9, i32_s]
        refine yp_sel [0, 1, 2, 3] ?_
        exact e8
def wpl (D : Nat) (PL : Nat → Nat → Int32) (r : Int32) (p : Nat) : Int32 := itf (wps (fun d => PL d p) r) D 0
theorem c_bplc {S n D : Nat} {g r : Int32} {PL : Nat → Nat → Int32} (hS : yss S) (hn : n ≤ 8) (hD : D ≤ 5) (hz : s S 0 = Int32.ofNat n) (hd : s S 1 = Int32.ofNat D) (hP : ∀ d p, d < D → p < n → s (S + 2) (d * 8 + p) = PL d p) (kk : Φ (some (.int (hv g (wpl D PL r) n))) (wr s (S + 21) 0 n (wpl D PL r))) : Yq sd 35 [.ref S, .int g, .int r] s Φ := by
  refine Yq.of rfl (Nat.le_of_ble_eq_true rfl) ?_
  rcases hS with rfl | rfl
  · have hz : s 30 0 = Int32.ofNat n := hz
    have w1 : Yp sd 35 82 [(0, .ref 30), (1, .int g), (2, .int r), (3, .int (Int32.ofNat n))] [] (wr s 51 0 n (fun p => itf (wps (fun d => PL d p) r) D 0)) Φ := by
      refine yp_run 2 (pc' := 84) (lv' := [(0, .ref 30), (1, .int g), (2, .int r), (3, .int (Int32.ofNat n))]) (st' := [.int g, .ref 30]) (s' := (wr s 51 0 n (fun p => itf (wps (fun d => PL d p) r) D 0))) rfl ?_
      refine yp_vi rfl rfl rfl rfl (c_heav (W := (fun p => itf (wps (fun d => PL d p) r) D 0)) (by decide) hn ((congrFun (wr_ne (by decide)) 0).trans hz) (fun p hp => wr_in (Nat.zero_le _) hp) ?_)
      refine yp_ri rfl rfl ?_
      exact kk
    have w2 := lz_bp (by decide) hn hD hz hd hP w1 n 0 (Nat.zero_add _)
    rw [wr_0] at w2
    refine yp_run 2 (pc' := 2) (lv' := [(0, .ref 30), (1, .int g), (2, .int r), (3, .int 0)]) (st' := []) (s' := s) rfl ?_
    exact w2
  · have hz : s 52 0 = Int32.ofNat n := hz
    have w1 : Yp sd 35 82 [(0, .ref 52), (1, .int g), (2, .int r), (3, .int (Int32.ofNat n))] [] (wr s 73 0 n (fun p => itf (wps (fun d => PL d p) r) D 0)) Φ := by
      refine yp_run 2 (pc' := 84) (lv' := [(0, .ref 52), (1, .int g), (2, .int r), (3, .int (Int32.ofNat n))]) (st' := [.int g, .ref 52]) (s' := (wr s 73 0 n (fun p => itf (wps (fun d => PL d p) r) D 0))) rfl ?_
      refine yp_vi rfl rfl rfl rfl (c_heav (W := (fun p => itf (wps (fun d => PL d p) r) D 0)) (by decide) hn ((congrFun (wr_ne (by decide)) 0).trans hz) (fun p hp => wr_in (Nat.zero_le _) hp) ?_)
      refine yp_ri rfl rfl ?_
      exact kk
    have w2 := lz_bp (by decide) hn hD hz hd hP w1 n 0 (Nat.zero_add _)
    rw [wr_0] at w2
    refine yp_run 2 (pc' := 2) (lv' := [(0, .ref 52), (1, .int g), (2, .int r), (3, .int 0)]) (st' := []) (s' := s) rfl ?_
    exact w2
def wms (WG : Nat → Int32) (i : Nat) (a : Int32) : Int32 := (a + (WG i))
theorem wms_eq (WG : Nat → Int32) (i : Nat) (a : Int32) : wms WG i a = (a + (WG i)) := rfl
theorem lz_wm {S : Nat} {D : Nat} {WG : Nat → Int32} {a0 : Int32} {p q : Nat} {g r b : Int32} (hS : yss S) (hp : p < 8) (hq : q < 9) (hD : D ≤ 5) (hd : s S 1 = Int32.ofNat D) (hG : ∀ d, d < D → s (S + 15) ((d * 8 + p) * 9 + q) = WG d) (kk : Yp sd 36 68 [(0, .ref S), (1, .int g), (2, .int r), (3, .int b), (4, .int (Int32.ofNat q)), (5, .int (Int32.ofNat p)), (6, .int (itf (wms WG) D a0)), (7, .int (Int32.ofNat D))] [] s Φ) : ∀ m i : Nat, i + m = D → Yp sd 36 32 [(0, .ref S), (1, .int g), (2, .int r), (3, .int b), (4, .int (Int32.ofNat q)), (5, .int (Int32.ofNat p)), (6, .int (itf (wms WG) i a0)), (7, .int (Int32.ofNat i))] [] s Φ := by
  intro m
  rcases hS with rfl | rfl
  · have hd : s 30 1 = Int32.ofNat D := hd
    induction m with
    | zero =>
      intro i hi
      refine yp_run 3 (pc' := 38) (lv' := [(0, .ref 30), (1, .int g), (2, .int r), (3, .int b), (4, .int (Int32.ofNat q)), (5, .int (Int32.ofNat p)), (6, .int (itf (wms WG) i a0)), (7, .int (Int32.ofNat i))]) (st' := [.int (s 30 1), .int (Int32.ofNat i)]) (s' := s) rfl ?_
      refine yp_icmp rfl rfl (fun h => ?_) (fun h => ?_)
      · rw [show i = D by omega]
        exact kk
      · have h := xN (xc_ge _ _) h
        rw [hd, i32_to (by omega), i32_to (by omega)] at h
        omega
    | succ m ih =>
      intro i hi
      refine yp_run 3 (pc' := 38) (lv' := [(0, .ref 30), (1, .int g), (2, .int r), (3, .int b), (4, .int (Int32.ofNat q)), (5, .int (Int32.ofNat p)), (6, .int (itf (wms WG) i a0)), (7, .int (Int32.ofNat i))]) (st' := [.int (s 30 1), .int (Int32.ofNat i)]) (s' := s) rfl ?_
      refine yp_icmp rfl rfl (fun h => ?_) (fun h => ?_)
      · have h := xT (xc_ge _ _) h
        rw [hd, i32_to (by omega), i32_to (by omega)] at h
        omega
      · refine yp_run 5 (pc' := 51) (lv' := [(0, .ref 30), (1, .int g), (2, .int r), (3, .int b), (4, .int (Int32.ofNat q)), (5, .int (Int32.ofNat p)), (6, .int (itf (wms WG) i a0)), (7, .int (Int32.ofNat i))]) (st' := [.int (Int32.ofNat p), .int (Int32.ofNat i), .ref 41, .int (itf (wms WG) i a0)]) (s' := s) rfl ?_
        refine yp_st rfl rfl (c_rowOf ?_)
        refine yp_run 1 (pc' := 56) (lv' := [(0, .ref 30), (1, .int g), (2, .int r), (3, .int b), (4, .int (Int32.ofNat q)), (5, .int (Int32.ofNat p)), (6, .int (itf (wms WG) i a0)), (7, .int (Int32.ofNat i))]) (st' := [.int (Int32.ofNat q), .int ((Int32.ofNat i) * 8 + (Int32.ofNat p)), .ref 41, .int (itf (wms WG) i a0)]) (s' := s) rfl ?_
        have gG : gget s 44 (Int32.ofNat i * 8 + Int32.ofNat p) (Int32.ofNat q) = WG i := by rw [row_i]; exact (gget_i (k := 44) (by show q < 9; omega) (by decide) (by show (i * 8 + p) * 9 + q < 360; omega)).trans (hG i (by omega))
        refine yp_vi rfl rfl rfl rfl (c_wgtv (by decide) gG ?_)
        refine yp_run 4 (pc' := 32) (lv' := [(0, .ref 30), (1, .int g), (2, .int r), (3, .int b), (4, .int (Int32.ofNat q)), (5, .int (Int32.ofNat p)), (6, .int ((itf (wms WG) i a0) + (WG i))), (7, .int ((Int32.ofNat i) + 1))]) (st' := []) (s' := s) rfl ?_
        have e9 : (itf (wms WG) (i + 1) a0) = ((itf (wms WG) i a0) + (WG i)) := by
          refine (wms_eq WG i (itf (wms WG) i a0)).trans ?_
          rfl
        have e8 := ih (i + 1) (by omega)
        rw [e9] at e8
        rw [i32_s]
        refine yp_sel [0, 1, 2, 3, 4, 5, 6, 7] ?_
        exact e8
  · have hd : s 52 1 = Int32.ofNat D := hd
    induction m with
    | zero =>
      intro i hi
      refine yp_run 3 (pc' := 38) (lv' := [(0, .ref 52), (1, .int g), (2, .int r), (3, .int b), (4, .int (Int32.ofNat q)), (5, .int (Int32.ofNat p)), (6, .int (itf (wms WG) i a0)), (7, .int (Int32.ofNat i))]) (st' := [.int (s 52 1), .int (Int32.ofNat i)]) (s' := s) rfl ?_
      refine yp_icmp rfl rfl (fun h => ?_) (fun h => ?_)
      · rw [show i = D by omega]
        exact kk
      · have h := xN (xc_ge _ _) h
        rw [hd, i32_to (by omega), i32_to (by omega)] at h
        omega
    | succ m ih =>
      intro i hi
      refine yp_run 3 (pc' := 38) (lv' := [(0, .ref 52), (1, .int g), (2, .int r), (3, .int b), (4, .int (Int32.ofNat q)), (5, .int (Int32.ofNat p)), (6, .int (itf (wms WG) i a0)), (7, .int (Int32.ofNat i))]) (st' := [.int (s 52 1), .int (Int32.ofNat i)]) (s' := s) rfl ?_
      refine yp_icmp rfl rfl (fun h => ?_) (fun h => ?_)
      · have h := xT (xc_ge _ _) h
        rw [hd, i32_to (by omega), i32_to (by omega)] at h
        omega
      · refine yp_run 5 (pc' := 51) (lv' := [(0, .ref 52), (1, .int g), (2, .int r), (3, .int b), (4, .int (Int32.ofNat q)), (5, .int (Int32.ofNat p)), (6, .int (itf (wms WG) i a0)), (7, .int (Int32.ofNat i))]) (st' := [.int (Int32.ofNat p), .int (Int32.ofNat i), .ref 63, .int (itf (wms WG) i a0)]) (s' := s) rfl ?_
        refine yp_st rfl rfl (c_rowOf ?_)
        refine yp_run 1 (pc' := 56) (lv' := [(0, .ref 52), (1, .int g), (2, .int r), (3, .int b), (4, .int (Int32.ofNat q)), (5, .int (Int32.ofNat p)), (6, .int (itf (wms WG) i a0)), (7, .int (Int32.ofNat i))]) (st' := [.int (Int32.ofNat q), .int ((Int32.ofNat i) * 8 + (Int32.ofNat p)), .ref 63, .int (itf (wms WG) i a0)]) (s' := s) rfl ?_
        have gG : gget s 66 (Int32.ofNat i * 8 + Int32.ofNat p) (Int32.ofNat q) = WG i := by rw [row_i]; exact (gget_i (k := 66) (by show q < 9; omega) (by decide) (by show (i * 8 + p) * 9 + q < 360; omega)).trans (hG i (by omega))
        refine yp_vi rfl rfl rfl rfl (c_wgtv (by decide) gG ?_)
        refine yp_run 4 (pc' := 32) (lv' := [(0, .ref 52), (1, .int g), (2, .int r), (3, .int b), (4, .int (Int32.ofNat q)), (5, .int (Int32.ofNat p)), (6, .int ((itf (wms WG) i a0) + (WG i))), (7, .int ((Int32.ofNat i) + 1))]) (st' := []) (s' := s) rfl ?_
        have e9 : (itf (wms WG) (i + 1) a0) = ((itf (wms WG) i a0) + (WG i)) := by
          refine (wms_eq WG i (itf (wms WG) i a0)).trans ?_
          rfl
        have e8 := ih (i + 1) (by omega)
        rw [e9] at e8
        rw [i32_s]
        refine yp_sel [0, 1, 2, 3, 4, 5, 6, 7] ?_
        exact e8
theorem lz_bm {S : Nat} {n : Nat} {g : Int32} {r : Int32} {b : Int32} {q : Nat} {WG : Nat → Nat → Nat → Int32} {D : Nat} (hS : yss S) (hn : n ≤ 8) (hD : D ≤ 5) (hq : q < 9) (hz : s S 0 = Int32.ofNat n) (hd : s S 1 = Int32.ofNat D) (hG : ∀ d p, d < D → p < n → s (S + 15) ((d * 8 + p) * 9 + q) = WG d p q) (kk : Yp sd 36 85 [(0, .ref S), (1, .int g), (2, .int r), (3, .int b), (4, .int (Int32.ofNat q)), (5, .int (Int32.ofNat n))] [] (wr s (S + 21) 0 n (fun p => itf (wms (fun d => WG d p q)) D 0)) Φ) : ∀ m i : Nat, i + m = n → Yp sd 36 17 [(0, .ref S), (1, .int g), (2, .int r), (3, .int b), (4, .int (Int32.ofNat q)), (5, .int (Int32.ofNat i))] [] (wr s (S + 21) 0 i (fun p => itf (wms (fun d => WG d p q)) D 0)) Φ := by
  intro m
  rcases hS with rfl | rfl
  · have hz : s 30 0 = Int32.ofNat n := hz
    have hd : s 30 1 = Int32.ofNat D := hd
    induction m with
    | zero =>
      intro i hi
      obtain ⟨T, hT⟩ : ∃ T, T = (wr s 51 0 i (fun p => itf (wms (fun d => WG d p q)) D 0)) := ⟨_, rfl⟩
      rw [← hT]
      have hk : ∀ k, k ≠ 51 → T k = s k := fun k q => by rw [hT]; exact wr_ne q
      have hzT : T 30 0 = Int32.ofNat n := (congrFun (hk 30 (by decide)) 0).trans hz
      have hdT : T 30 1 = Int32.ofNat D := (congrFun (hk 30 (by decide)) 1).trans hd
      refine yp_run 3 (pc' := 23) (lv' := [(0, .ref 30), (1, .int g), (2, .int r), (3, .int b), (4, .int (Int32.ofNat q)), (5, .int (Int32.ofNat i))]) (st' := [.int (T 30 0), .int (Int32.ofNat i)]) (s' := T) rfl ?_
      refine yp_icmp rfl rfl (fun h => ?_) (fun h => ?_)
      · rw [hT, show i = n by omega]
        exact kk
      · have h := xN (xc_ge _ _) h
        rw [hzT, i32_to (by omega), i32_to (by omega)] at h
        omega
    | succ m ih =>
      intro i hi
      obtain ⟨T, hT⟩ : ∃ T, T = (wr s 51 0 i (fun p => itf (wms (fun d => WG d p q)) D 0)) := ⟨_, rfl⟩
      rw [← hT]
      have hk : ∀ k, k ≠ 51 → T k = s k := fun k q => by rw [hT]; exact wr_ne q
      have hzT : T 30 0 = Int32.ofNat n := (congrFun (hk 30 (by decide)) 0).trans hz
      have hdT : T 30 1 = Int32.ofNat D := (congrFun (hk 30 (by decide)) 1).trans hd
      refine yp_run 3 (pc' := 23) (lv' := [(0, .ref 30), (1, .int g), (2, .int r), (3, .int b), (4, .int (Int32.ofNat q)), (5, .int (Int32.ofNat i))]) (st' := [.int (T 30 0), .int (Int32.ofNat i)]) (s' := T) rfl ?_
      refine yp_icmp rfl rfl (fun h => ?_) (fun h => ?_)
      · have h := xT (xc_ge _ _) h
        rw [hzT, i32_to (by omega), i32_to (by omega)] at h
        omega
      · refine yp_run 4 (pc' := 32) (lv' := [(0, .ref 30), (1, .int g), (2, .int r), (3, .int b), (4, .int (Int32.ofNat q)), (5, .int (Int32.ofNat i)), (6, .int 0), (7, .int 0)]) (st' := []) (s' := T) rfl ?_
        refine lz_wm (a0 := 0) (WG := (fun d => WG d i q)) (by decide) (by omega) hq hD hdT (fun d hd9 => (congrFun (hk 45 (by decide)) _).trans (hG d i hd9 (by omega))) ?_ D 0 (Nat.zero_add _)
        refine yp_run 4 (pc' := 76) (lv' := [(0, .ref 30), (1, .int g), (2, .int r), (3, .int b), (4, .int (Int32.ofNat q)), (5, .int (Int32.ofNat i)), (6, .int (itf (wms (fun d => WG d i q)) D 0)), (7, .int (Int32.ofNat D))]) (st' := [.int (itf (wms (fun d => WG d i q)) D 0), .int (Int32.ofNat i), .ref 50]) (s' := T) rfl ?_
        refine yp_vi rfl rfl rfl rfl (c_rset rfl ?_)
        refine yp_run 2 (pc' := 17) (lv' := [(0, .ref 30), (1, .int g), (2, .int r), (3, .int b), (4, .int (Int32.ofNat q)), (5, .int ((Int32.ofNat i) + 1)), (6, .int (itf (wms (fun d => WG d i q)) D 0)), (7, .int (Int32.ofNat D))]) (st' := []) (s' := (rset T 50 (Int32.ofNat i) (itf (wms (fun d => WG d i q)) D 0))) rfl ?_
        have e9 : (rset T 50 (Int32.ofNat i) (itf (wms (fun d => WG d i q)) D 0)) = (wr s 51 0 (i + 1) (fun p => itf (wms (fun d => WG d p q)) D 0)) := by
          rw [rset_i (k := 50) (by show i < 8; omega), hT]
          exact wr_s (by omega) (rfl)
        have e8 := ih (i + 1) (by omega)
        rw [e9, i32_s]
        refine yp_sel [0, 1, 2, 3, 4, 5] ?_
        exact e8
  · have hz : s 52 0 = Int32.ofNat n := hz
    have hd : s 52 1 = Int32.ofNat D := hd
    induction m with
    | zero =>
      intro i hi
      obtain ⟨T, hT⟩ : ∃ T, T = (wr s 73 0 i (fun p => itf (wms (fun d => WG d p q)) D 0)) := ⟨_, rfl⟩
      rw [← hT]
      have hk : ∀ k, k ≠ 73 → T k = s k := fun k q => by rw [hT]; exact wr_ne q
      have hzT : T 52 0 = Int32.ofNat n := (congrFun (hk 52 (by decide)) 0).trans hz
      have hdT : T 52 1 = Int32.ofNat D := (congrFun (hk 52 (by decide)) 1).trans hd
      refine yp_run 3 (pc' := 23) (lv' := [(0, .ref 52), (1, .int g), (2, .int r), (3, .int b), (4, .int (Int32.ofNat q)), (5, .int (Int32.ofNat i))]) (st' := [.int (T 52 0), .int (Int32.ofNat i)]) (s' := T) rfl ?_
      refine yp_icmp rfl rfl (fun h => ?_) (fun h => ?_)
      · rw [hT, show i = n by omega]
        exact kk
      · have h := xN (xc_ge _ _) h
        rw [hzT, i32_to (by omega), i32_to (by omega)] at h
        omega
    | succ m ih =>
      intro i hi
      obtain ⟨T, hT⟩ : ∃ T, T = (wr s 73 0 i (fun p => itf (wms (fun d => WG d p q)) D 0)) := ⟨_, rfl⟩
      rw [← hT]
      have hk : ∀ k, k ≠ 73 → T k = s k := fun k q => by rw [hT]; exact wr_ne q
      have hzT : T 52 0 = Int32.ofNat n := (congrFun (hk 52 (by decide)) 0).trans hz
      have hdT : T 52 1 = Int32.ofNat D := (congrFun (hk 52 (by decide)) 1).trans hd
      refine yp_run 3 (pc' := 23) (lv' := [(0, .ref 52), (1, .int g), (2, .int r), (3, .int b), (4, .int (Int32.ofNat q)), (5, .int (Int32.ofNat i))]) (st' := [.int (T 52 0), .int (Int32.ofNat i)]) (s' := T) rfl ?_
      refine yp_icmp rfl rfl (fun h => ?_) (fun h => ?_)
      · have h := xT (xc_ge _ _) h
        rw [hzT, i32_to (by omega), i32_to (by omega)] at h
        omega
      · refine yp_run 4 (pc' := 32) (lv' := [(0, .ref 52), (1, .int g), (2, .int r), (3, .int b), (4, .int (Int32.ofNat q)), (5, .int (Int32.ofNat i)), (6, .int 0), (7, .int 0)]) (st' := []) (s' := T) rfl ?_
        refine lz_wm (a0 := 0) (WG := (fun d => WG d i q)) (by decide) (by omega) hq hD hdT (fun d hd9 => (congrFun (hk 67 (by decide)) _).trans (hG d i hd9 (by omega))) ?_ D 0 (Nat.zero_add _)
        refine yp_run 4 (pc' := 76) (lv' := [(0, .ref 52), (1, .int g), (2, .int r), (3, .int b), (4, .int (Int32.ofNat q)), (5, .int (Int32.ofNat i)), (6, .int (itf (wms (fun d => WG d i q)) D 0)), (7, .int (Int32.ofNat D))]) (st' := [.int (itf (wms (fun d => WG d i q)) D 0), .int (Int32.ofNat i), .ref 72]) (s' := T) rfl ?_
        refine yp_vi rfl rfl rfl rfl (c_rset rfl ?_)
        refine yp_run 2 (pc' := 17) (lv' := [(0, .ref 52), (1, .int g), (2, .int r), (3, .int b), (4, .int (Int32.ofNat q)), (5, .int ((Int32.ofNat i) + 1)), (6, .int (itf (wms (fun d => WG d i q)) D 0)), (7, .int (Int32.ofNat D))]) (st' := []) (s' := (rset T 72 (Int32.ofNat i) (itf (wms (fun d => WG d i q)) D 0))) rfl ?_
        have e9 : (rset T 72 (Int32.ofNat i) (itf (wms (fun d => WG d i q)) D 0)) = (wr s 73 0 (i + 1) (fun p => itf (wms (fun d => WG d p q)) D 0)) := by
          rw [rset_i (k := 72) (by show i < 8; omega), hT]
          exact wr_s (by omega) (rfl)
        have e8 := ih (i + 1) (by omega)
        rw [e9, i32_s]
        refine yp_sel [0, 1, 2, 3, 4, 5] ?_
        exact e8
def wmk (D : Nat) (WG : Nat → Nat → Nat → Int32) (q p : Nat) : Int32 := itf (wms (fun d => WG d p q)) D 0
/-- the heap behind i rounds -/
def bmSt (s : yS) (S n D r : Nat) (WG : Nat → Nat → Nat → Int32) : Nat → yS
  | 0 => s
  | i + 1 => wr s (S + 21) 0 n (wmk D WG (r + i))
theorem bmSt_ne {s : yS} {S n D r i k : Nat} {WG : Nat → Nat → Nat → Int32} (h : k ≠ S + 21) : bmSt s S n D r WG i k = s k := by
  cases i with
  | zero => rfl
  | succ i => exact wr_ne h
theorem bmSt_s (s : yS) (S n D r i : Nat) (WG : Nat → Nat → Nat → Int32) : wr (bmSt s S n D r WG i) (S + 21) 0 n (wmk D WG (r + i)) = bmSt s S n D r WG (i + 1) := by
  cases i with
  | zero => rfl
  | succ i => exact wr_wr
/-- by the marks of r, r + 1, .. -/
def bmk (n D r : Nat) (WG : Nat → Nat → Nat → Int32) (g : Int32) : Nat → Int32
  | 0 => g
  | i + 1 => hv (bmk n D r WG g i) (wmk D WG (r + i)) n
theorem lz_bo {S n D r : Nat} {g : Int32} {WG : Nat → Nat → Nat → Int32} (hS : yss S) (hn : n ≤ 8) (hD : D ≤ 5) (hr : 1 ≤ r) (hr2 : r ≤ 1000) (hz : s S 0 = Int32.ofNat n) (hd : s S 1 = Int32.ofNat D) (hG : ∀ d p q, d < D → p < n → 1 ≤ q → q ≤ n → s (S + 15) ((d * 8 + p) * 9 + q) = WG d p q)
    (kk : Yp sd 36 97 [(0, .ref S), (1, .int g), (2, .int (Int32.ofNat r)), (3, .int (bmk n D r WG g (n + 1 - r))), (4, .int (Int32.ofNat (r + (n + 1 - r))))] [] (bmSt s S n D r WG (n + 1 - r)) Φ) : ∀ m i : Nat, i + m = n + 1 - r → Yp sd 36 5 [(0, .ref S), (1, .int g), (2, .int (Int32.ofNat r)), (3, .int (bmk n D r WG g i)), (4, .int (Int32.ofNat (r + i)))] [] (bmSt s S n D r WG i) Φ := by
  intro m
  rcases hS with rfl | rfl
  · have hz : s 30 0 = Int32.ofNat n := hz
    have hd : s 30 1 = Int32.ofNat D := hd
    induction m with
    | zero =>
      intro i hi
      obtain ⟨T, hT⟩ : ∃ T, T = bmSt s 30 n D r WG i := ⟨_, rfl⟩
      rw [← hT]
      have hk : ∀ k, k ≠ 51 → T k = s k := fun k q => by rw [hT]; exact bmSt_ne q
      have hzT : T 30 0 = Int32.ofNat n := (congrFun (hk 30 (by decide)) 0).trans hz
      have hdT : T 30 1 = Int32.ofNat D := (congrFun (hk 30 (by decide)) 1).trans hd
      refine yp_run 3 (pc' := 11) (lv' := [(0, .ref 30), (1, .int g), (2, .int (Int32.ofNat r)), (3, .int (bmk n D r WG g i)), (4, .int (Int32.ofNat (r + i)))]) (st' := [.int (T 30 0), .int (Int32.ofNat (r + i))]) (s' := T) rfl ?_
      refine yp_icmp rfl rfl (fun h => ?_) (fun h => ?_)
      · rw [hT, show i = n + 1 - r by omega]
        exact kk
      · have h := xN (xc_gt _ _) h
        rw [hzT, i32_to (by omega), i32_to (by omega)] at h
        omega
    | succ m ih =>
      intro i hi
      obtain ⟨T, hT⟩ : ∃ T, T = bmSt s 30 n D r WG i := ⟨_, rfl⟩
      rw [← hT]
      have hk : ∀ k, k ≠ 51 → T k = s k := fun k q => by rw [hT]; exact bmSt_ne q
      have hzT : T 30 0 = Int32.ofNat n := (congrFun (hk 30 (by decide)) 0).trans hz
      have hdT : T 30 1 = Int32.ofNat D := (congrFun (hk 30 (by decide)) 1).trans hd
      refine yp_run 3 (pc' := 11) (lv' := [(0, .ref 30), (1, .int g), (2, .int (Int32.ofNat r)), (3, .int (bmk n D r WG g i)), (4, .int (Int32.ofNat (r + i)))]) (st' := [.int (T 30 0), .int (Int32.ofNat (r + i))]) (s' := T) rfl ?_
      refine yp_icmp rfl rfl (fun h => ?_) (fun h => ?_)
      · have h := xT (xc_gt _ _) h
        rw [hzT, i32_to (by omega), i32_to (by omega)] at h
        omega
      · refine yp_run 2 (pc' := 17) (lv' := [(0, .ref 30), (1, .int g), (2, .int (Int32.ofNat r)), (3, .int (bmk n D r WG g i)), (4, .int (Int32.ofNat (r + i))), (5, .int 0)]) (st' := []) (s' := T) rfl ?_
        have w1 : Yp sd 36 85 [(0, .ref 30), (1, .int g), (2, .int (Int32.ofNat r)), (3, .int (bmk n D r WG g i)), (4, .int (Int32.ofNat (r + i))), (5, .int (Int32.ofNat n))] [] (wr T 51 0 n (wmk D WG (r + i))) Φ := by
          refine yp_run 2 (pc' := 87) (lv' := [(0, .ref 30), (1, .int g), (2, .int (Int32.ofNat r)), (3, .int (bmk n D r WG g i)), (4, .int (Int32.ofNat (r + i))), (5, .int (Int32.ofNat n))]) (st' := [.int (bmk n D r WG g i), .ref 30]) (s' := (wr T 51 0 n (wmk D WG (r + i)))) rfl ?_
          refine yp_vi rfl rfl rfl rfl (c_heav (W := (wmk D WG (r + i))) (by decide) hn ((congrFun (wr_ne (by decide)) 0).trans hzT) (fun p hp => wr_in (Nat.zero_le _) hp) ?_)
          refine yp_run 3 (pc' := 5) (lv' := [(0, .ref 30), (1, .int g), (2, .int (Int32.ofNat r)), (3, .int (hv (bmk n D r WG g i) (wmk D WG (r + i)) n)), (4, .int ((Int32.ofNat (r + i)) + 1)), (5, .int (Int32.ofNat n))]) (st' := []) (s' := (wr T 51 0 n (wmk D WG (r + i)))) rfl ?_
          have e8 := ih (i + 1) (by omega)
          rw [i32_s, hT, show 51 = 30 + 21 from rfl, bmSt_s]
          refine yp_sel [0, 1, 2, 3, 4] ?_
          exact e8
        have w2 := lz_bm (by decide) hn hD (by omega) hzT hdT (fun d p h1 h2 => (congrFun (hk 45 (by decide)) _).trans (hG d p (r + i) h1 h2 (by omega) (by omega))) w1 n 0 (Nat.zero_add _)
        rw [wr_0] at w2
        exact w2
  · have hz : s 52 0 = Int32.ofNat n := hz
    have hd : s 52 1 = Int32.ofNat D := hd
    induction m with
    | zero =>
      intro i hi
      obtain ⟨T, hT⟩ : ∃ T, T = bmSt s 52 n D r WG i := ⟨_, rfl⟩
      rw [← hT]
      have hk : ∀ k, k ≠ 73 → T k = s k := fun k q => by rw [hT]; exact bmSt_ne q
      have hzT : T 52 0 = Int32.ofNat n := (congrFun (hk 52 (by decide)) 0).trans hz
      have hdT : T 52 1 = Int32.ofNat D := (congrFun (hk 52 (by decide)) 1).trans hd
      refine yp_run 3 (pc' := 11) (lv' := [(0, .ref 52), (1, .int g), (2, .int (Int32.ofNat r)), (3, .int (bmk n D r WG g i)), (4, .int (Int32.ofNat (r + i)))]) (st' := [.int (T 52 0), .int (Int32.ofNat (r + i))]) (s' := T) rfl ?_
      refine yp_icmp rfl rfl (fun h => ?_) (fun h => ?_)
      · rw [hT, show i = n + 1 - r by omega]
        exact kk
      · have h := xN (xc_gt _ _) h
        rw [hzT, i32_to (by omega), i32_to (by omega)] at h
        omega
    | succ m ih =>
      intro i hi
      obtain ⟨T, hT⟩ : ∃ T, T = bmSt s 52 n D r WG i := ⟨_, rfl⟩
      rw [← hT]
      have hk : ∀ k, k ≠ 73 → T k = s k := fun k q => by rw [hT]; exact bmSt_ne q
      have hzT : T 52 0 = Int32.ofNat n := (congrFun (hk 52 (by decide)) 0).trans hz
      have hdT : T 52 1 = Int32.ofNat D := (congrFun (hk 52 (by decide)) 1).trans hd
      refine yp_run 3 (pc' := 11) (lv' := [(0, .ref 52), (1, .int g), (2, .int (Int32.ofNat r)), (3, .int (bmk n D r WG g i)), (4, .int (Int32.ofNat (r + i)))]) (st' := [.int (T 52 0), .int (Int32.ofNat (r + i))]) (s' := T) rfl ?_
      refine yp_icmp rfl rfl (fun h => ?_) (fun h => ?_)
      · have h := xT (xc_gt _ _) h
        rw [hzT, i32_to (by omega), i32_to (by omega)] at h
        omega
      · refine yp_run 2 (pc' := 17) (lv' := [(0, .ref 52), (1, .int g), (2, .int (Int32.ofNat r)), (3, .int (bmk n D r WG g i)), (4, .int (Int32.ofNat (r + i))), (5, .int 0)]) (st' := []) (s' := T) rfl ?_
        have w1 : Yp sd 36 85 [(0, .ref 52), (1, .int g), (2, .int (Int32.ofNat r)), (3, .int (bmk n D r WG g i)), (4, .int (Int32.ofNat (r + i))), (5, .int (Int32.ofNat n))] [] (wr T 73 0 n (wmk D WG (r + i))) Φ := by
          refine yp_run 2 (pc' := 87) (lv' := [(0, .ref 52), (1, .int g), (2, .int (Int32.ofNat r)), (3, .int (bmk n D r WG g i)), (4, .int (Int32.ofNat (r + i))), (5, .int (Int32.ofNat n))]) (st' := [.int (bmk n D r WG g i), .ref 52]) (s' := (wr T 73 0 n (wmk D WG (r + i)))) rfl ?_
          refine yp_vi rfl rfl rfl rfl (c_heav (W := (wmk D WG (r + i))) (by decide) hn ((congrFun (wr_ne (by decide)) 0).trans hzT) (fun p hp => wr_in (Nat.zero_le _) hp) ?_)
          refine yp_run 3 (pc' := 5) (lv' := [(0, .ref 52), (1, .int g), (2, .int (Int32.ofNat r)), (3, .int (hv (bmk n D r WG g i) (wmk D WG (r + i)) n)), (4, .int ((Int32.ofNat (r + i)) + 1)), (5, .int (Int32.ofNat n))]) (st' := []) (s' := (wr T 73 0 n (wmk D WG (r + i)))) rfl ?_
          have e8 := ih (i + 1) (by omega)
          rw [i32_s, hT, show 73 = 52 + 21 from rfl, bmSt_s]
          refine yp_sel [0, 1, 2, 3, 4] ?_
          exact e8
        have w2 := lz_bm (by decide) hn hD (by omega) hzT hdT (fun d p h1 h2 => (congrFun (hk 67 (by decide)) _).trans (hG d p (r + i) h1 h2 (by omega) (by omega))) w1 n 0 (Nat.zero_add _)
        rw [wr_0] at w2
        exact w2
theorem c_bmrk {S n D r : Nat} {g : Int32} {WG : Nat → Nat → Nat → Int32} (hS : yss S) (hn : n ≤ 8) (hD : D ≤ 5) (hr : 1 ≤ r) (hr2 : r ≤ 1000) (hz : s S 0 = Int32.ofNat n) (hd : s S 1 = Int32.ofNat D) (hG : ∀ d p q, d < D → p < n → 1 ≤ q → q ≤ n → s (S + 15) ((d * 8 + p) * 9 + q) = WG d p q)
    (kk : Φ (some (.int (bmk n D r WG g (n + 1 - r)))) (bmSt s S n D r WG (n + 1 - r))) : Yq sd 36 [.ref S, .int g, .int (Int32.ofNat r)] s Φ := by
  refine Yq.of rfl (Nat.le_of_ble_eq_true rfl) ?_
  rcases hS with rfl | rfl
  · have w1 : Yp sd 36 97 [(0, .ref 30), (1, .int g), (2, .int (Int32.ofNat r)), (3, .int (bmk n D r WG g (n + 1 - r))), (4, .int (Int32.ofNat (r + (n + 1 - r))))] [] (bmSt s 30 n D r WG (n + 1 - r)) Φ := by
      refine yp_run 1 (pc' := 98) (lv' := [(0, .ref 30), (1, .int g), (2, .int (Int32.ofNat r)), (3, .int (bmk n D r WG g (n + 1 - r))), (4, .int (Int32.ofNat (r + (n + 1 - r))))]) (st' := [.int (bmk n D r WG g (n + 1 - r))]) (s' := (bmSt s 30 n D r WG (n + 1 - r))) rfl ?_
      refine yp_ri rfl rfl ?_
      exact kk
    have w2 := lz_bo (by decide) hn hD hr hr2 hz hd hG w1 (n + 1 - r) 0 (Nat.zero_add _)
    refine yp_run 4 (pc' := 5) (lv' := [(0, .ref 30), (1, .int g), (2, .int (Int32.ofNat r)), (3, .int g), (4, .int (Int32.ofNat r))]) (st' := []) (s' := s) rfl ?_
    exact w2
  · have w1 : Yp sd 36 97 [(0, .ref 52), (1, .int g), (2, .int (Int32.ofNat r)), (3, .int (bmk n D r WG g (n + 1 - r))), (4, .int (Int32.ofNat (r + (n + 1 - r))))] [] (bmSt s 52 n D r WG (n + 1 - r)) Φ := by
      refine yp_run 1 (pc' := 98) (lv' := [(0, .ref 52), (1, .int g), (2, .int (Int32.ofNat r)), (3, .int (bmk n D r WG g (n + 1 - r))), (4, .int (Int32.ofNat (r + (n + 1 - r))))]) (st' := [.int (bmk n D r WG g (n + 1 - r))]) (s' := (bmSt s 52 n D r WG (n + 1 - r))) rfl ?_
      refine yp_ri rfl rfl ?_
      exact kk
    have w2 := lz_bo (by decide) hn hD hr hr2 hz hd hG w1 (n + 1 - r) 0 (Nat.zero_add _)
    refine yp_run 4 (pc' := 5) (lv' := [(0, .ref 52), (1, .int g), (2, .int (Int32.ofNat r)), (3, .int g), (4, .int (Int32.ofNat r))]) (st' := []) (s' := s) rfl ?_
    exact w2
end YN2
