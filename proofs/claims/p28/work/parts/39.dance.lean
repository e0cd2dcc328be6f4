/-! totals; turns; who is ahead in a dance; reasons -/
section YQ2
variable {sd : Option (List Int32)} {μ pc : Nat} {lv : xL} {st : List Value} {s : yS} {Φ : Option Value → yS → Prop}
def ads (PL : Nat → Int32) (i : Nat) (a : Int32) : Int32 := (a + (PL i))
theorem ads_eq (PL : Nat → Int32) (i : Nat) (a : Int32) : ads PL i a = (a + (PL i)) := rfl
theorem lz_ad {S : Nat} {D : Nat} {PL : Nat → Int32} {a0 : Int32} {p : Nat} (hS : yss S) (hp : p < 8) (hD : D ≤ 5) (hD1 : s S 1 = Int32.ofNat D) (hP : ∀ d, d < D → s (S + 2) (d * 8 + p) = PL d) (kk : Yp sd 30 40 [(0, .ref S), (1, .int (Int32.ofNat p)), (2, .int (itf (ads PL) D a0)), (3, .int (Int32.ofNat D))] [] s Φ) : ∀ m i : Nat, i + m = D → Yp sd 30 14 [(0, .ref S), (1, .int (Int32.ofNat p)), (2, .int (itf (ads PL) i a0)), (3, .int (Int32.ofNat i))] [] s Φ := by
  intro m
  rcases hS with rfl | rfl
  · have hD1 : s 30 1 = Int32.ofNat D := hD1
    induction m with
    | zero =>
      intro i hi
      refine yp_run 3 (pc' := 19) (lv' := [(0, .ref 30), (1, .int (Int32.ofNat p)), (2, .int (itf (ads PL) i a0)), (3, .int (Int32.ofNat i))]) (st' := [.int (s 30 1), .int (Int32.ofNat i)]) (s' := s) rfl ?_
      refine yp_icmp rfl rfl (fun h => ?_) (fun h => ?_)
      · rw [show i = D by omega]
        exact kk
      · have h := xN (xc_ge _ _) h
        rw [hD1, i32_to (by omega), i32_to (by omega)] at h
        omega
    | succ m ih =>
      intro i hi
      refine yp_run 3 (pc' := 19) (lv' := [(0, .ref 30), (1, .int (Int32.ofNat p)), (2, .int (itf (ads PL) i a0)), (3, .int (Int32.ofNat i))]) (st' := [.int (s 30 1), .int (Int32.ofNat i)]) (s' := s) rfl ?_
      refine yp_icmp rfl rfl (fun h => ?_) (fun h => ?_)
      · have h := xT (xc_ge _ _) h
        rw [hD1, i32_to (by omega), i32_to (by omega)] at h
        omega
      · refine yp_run 5 (pc' := 29) (lv' := [(0, .ref 30), (1, .int (Int32.ofNat p)), (2, .int (itf (ads PL) i a0)), (3, .int (Int32.ofNat i))]) (st' := [.int (Int32.ofNat p), .int (Int32.ofNat i), .ref 31, .int (itf (ads PL) i a0)]) (s' := s) rfl ?_
        have gP : gget s 31 (Int32.ofNat i) (Int32.ofNat p) = PL i := (gget_i (k := 31) (by show p < 8; omega) (by decide) (by show i * 8 + p < 40; omega)).trans (hP i (by omega))
        refine yp_vi rfl rfl rfl rfl (c_ggetv rfl gP ?_)
        refine yp_run 4 (pc' := 14) (lv' := [(0, .ref 30), (1, .int (Int32.ofNat p)), (2, .int ((itf (ads PL) i a0) + (PL i))), (3, .int ((Int32.ofNat i) + 1))]) (st' := []) (s' := s) rfl ?_
        have e9 : (itf (ads PL) (i + 1) a0) = ((itf (ads PL) i a0) + (PL i)) := by
          refine (ads_eq PL i (itf (ads PL) i a0)).trans ?_
          rfl
        have e8 := ih (i + 1) (by omega)
        rw [e9] at e8
        rw [i32_s]
        refine yp_sel [0, 1, 2, 3] ?_
        exact e8
  · have hD1 : s 52 1 = Int32.ofNat D := hD1
    induction m with
    | zero =>
      intro i hi
      refine yp_run 3 (pc' := 19) (lv' := [(0, .ref 52), (1, .int (Int32.ofNat p)), (2, .int (itf (ads PL) i a0)), (3, .int (Int32.ofNat i))]) (st' := [.int (s 52 1), .int (Int32.ofNat i)]) (s' := s) rfl ?_
      refine yp_icmp rfl rfl (fun h => ?_) (fun h => ?_)
      · rw [show i = D by omega]
        exact kk
      · have h := xN (xc_ge _ _) h
        rw [hD1, i32_to (by omega), i32_to (by omega)] at h
        omega
    | succ m ih =>
      intro i hi
      refine yp_run 3 (pc' := 19) (lv' := [(0, .ref 52), (1, .int (Int32.ofNat p)), (2, .int (itf (ads PL) i a0)), (3, .int (Int32.ofNat i))]) (st' := [.int (s 52 1), .int (Int32.ofNat i)]) (s' := s) rfl ?_
      refine yp_icmp rfl rfl (fun h => ?_) (fun h => ?_)
      · have h := xT (xc_ge _ _) h
        rw [hD1, i32_to (by omega), i32_to (by omega)] at h
        omega
      · refine yp_run 5 (pc' := 29) (lv' := [(0, .ref 52), (1, .int (Int32.ofNat p)), (2, .int (itf (ads PL) i a0)), (3, .int (Int32.ofNat i))]) (st' := [.int (Int32.ofNat p), .int (Int32.ofNat i), .ref 53, .int (itf (ads PL) i a0)]) (s' := s) rfl ?_
        have gP : gget s 53 (Int32.ofNat i) (Int32.ofNat p) = PL i := (gget_i (k := 53) (by show p < 8; omega) (by decide) (by show i * 8 + p < 40; omega)).trans (hP i (by omega))
        refine yp_vi rfl rfl rfl rfl (c_ggetv rfl gP ?_)
        refine yp_run 4 (pc' := 14) (lv' := [(0, .ref 52), (1, .int (Int32.ofNat p)), (2, .int ((itf (ads PL) i a0) + (PL i))), (3, .int ((Int32.ofNat i) + 1))]) (st' := []) (s' := s) rfl ?_
        have e9 : (itf (ads PL) (i + 1) a0) = ((itf (ads PL) i a0) + (PL i)) := by
          refine (ads_eq PL i (itf (ads PL) i a0)).trans ?_
          rfl
        have e8 := ih (i + 1) (by omega)
        rw [e9] at e8
        rw [i32_s]
        refine yp_sel [0, 1, 2, 3] ?_
        exact e8
theorem lz_ao {S : Nat} {n : Nat} {PL : Nat → Nat → Int32} {D : Nat} (hS : yss S) (hn : n ≤ 8) (hD : D ≤ 5) (hz : s S 0 = Int32.ofNat n) (hD1 : s S 1 = Int32.ofNat D) (hP : ∀ d p, d < D → p < n → s (S + 2) (d * 8 + p) = PL d p) (kk : Yp sd 30 55 [(0, .ref S), (1, .int (Int32.ofNat n))] [] (wr s (S + 6) 0 n (fun p => itf (ads (fun d => PL d p)) D 0)) Φ) : ∀ m i : Nat, i + m = n → Yp sd 30 2 [(0, .ref S), (1, .int (Int32.ofNat i))] [] (wr s (S + 6) 0 i (fun p => itf (ads (fun d => PL d p)) D 0)) Φ := by
  intro m
  rcases hS with rfl | rfl
  · have hz : s 30 0 = Int32.ofNat n := hz
    have hD1 : s 30 1 = Int32.ofNat D := hD1
    induction m with
    | zero =>
      intro i hi
      obtain ⟨T, hT⟩ : ∃ T, T = (wr s 36 0 i (fun p => itf (ads (fun d => PL d p)) D 0)) := ⟨_, rfl⟩
      rw [← hT]
      have hk : ∀ k, k ≠ 36 → T k = s k := fun k q => by rw [hT]; exact wr_ne q
      have hzT : T 30 0 = Int32.ofNat n := (congrFun (hk 30 (by decide)) 0).trans hz
      have hdT : T 30 1 = Int32.ofNat D := (congrFun (hk 30 (by decide)) 1).trans hD1
      refine yp_run 3 (pc' := 7) (lv' := [(0, .ref 30), (1, .int (Int32.ofNat i))]) (st' := [.int (T 30 0), .int (Int32.ofNat i)]) (s' := T) rfl ?_
      refine yp_icmp rfl rfl (fun h => ?_) (fun h => ?_)
      · rw [hT, show i = n by omega]
        exact kk
      · have h := xN (xc_ge _ _) h
        rw [hzT, i32_to (by omega), i32_to (by omega)] at h
        omega
    | succ m ih =>
      intro i hi
      obtain ⟨T, hT⟩ : ∃ T, T = (wr s 36 0 i (fun p => itf (ads (fun d => PL d p)) D 0)) := ⟨_, rfl⟩
      rw [← hT]
      have hk : ∀ k, k ≠ 36 → T k = s k := fun k q => by rw [hT]; exact wr_ne q
      have hzT : T 30 0 = Int32.ofNat n := (congrFun (hk 30 (by decide)) 0).trans hz
      have hdT : T 30 1 = Int32.ofNat D := (congrFun (hk 30 (by decide)) 1).trans hD1
      refine yp_run 3 (pc' := 7) (lv' := [(0, .ref 30), (1, .int (Int32.ofNat i))]) (st' := [.int (T 30 0), .int (Int32.ofNat i)]) (s' := T) rfl ?_
      refine yp_icmp rfl rfl (fun h => ?_) (fun h => ?_)
      · have h := xT (xc_ge _ _) h
        rw [hzT, i32_to (by omega), i32_to (by omega)] at h
        omega
      · refine yp_run 4 (pc' := 14) (lv' := [(0, .ref 30), (1, .int (Int32.ofNat i)), (2, .int 0), (3, .int 0)]) (st' := []) (s' := T) rfl ?_
        refine lz_ad (a0 := 0) (PL := (fun d => PL d i)) (by decide) (by omega) hD hdT (fun d hd9 => (congrFun (hk 32 (by decide)) _).trans (hP d i hd9 (by omega))) ?_ D 0 (Nat.zero_add _)
        refine yp_run 4 (pc' := 46) (lv' := [(0, .ref 30), (1, .int (Int32.ofNat i)), (2, .int (itf (ads (fun d => PL d i)) D 0)), (3, .int (Int32.ofNat D))]) (st' := [.int (itf (ads (fun d => PL d i)) D 0), .int (Int32.ofNat i), .ref 35]) (s' := T) rfl ?_
        refine yp_vi rfl rfl rfl rfl (c_rset rfl ?_)
        refine yp_run 2 (pc' := 2) (lv' := [(0, .ref 30), (1, .int ((Int32.ofNat i) + 1)), (2, .int (itf (ads (fun d => PL d i)) D 0)), (3, .int (Int32.ofNat D))]) (st' := []) (s' := (rset T 35 (Int32.ofNat i) (itf (ads (fun d => PL d i)) D 0))) rfl ?_
        have e9 : (rset T 35 (Int32.ofNat i) (itf (ads (fun d => PL d i)) D 0)) = (wr s 36 0 (i + 1) (fun p => itf (ads (fun d => PL d p)) D 0)) := by
          rw [rset_i (k := 35) (by show i < 8; omega), hT]
          exact wr_s (by omega) (rfl)
        have e8 := ih (i + 1) (by omega)
        rw [e9, i32_s]
        refine yp_sel [0, 1] ?_
        exact e8
  · have hz : s 52 0 = Int32.ofNat n := hz
    have hD1 : s 52 1 = Int32.ofNat D := hD1
    induction m with
    | zero =>
      intro i hi
      obtain ⟨T, hT⟩ : ∃ T, T = (wr s 58 0 i (fun p => itf (ads (fun d => PL d p)) D 0)) := ⟨_, rfl⟩
      rw [← hT]
      have hk : ∀ k, k ≠ 58 → T k = s k := fun k q => by rw [hT]; exact wr_ne q
      have hzT : T 52 0 = Int32.ofNat n := (congrFun (hk 52 (by decide)) 0).trans hz
      have hdT : T 52 1 = Int32.ofNat D := (congrFun (hk 52 (by decide)) 1).trans hD1
      refine yp_run 3 (pc' := 7) (lv' := [(0, .ref 52), (1, .int (Int32.ofNat i))]) (st' := [.int (T 52 0), .int (Int32.ofNat i)]) (s' := T) rfl ?_
      refine yp_icmp rfl rfl (fun h => ?_) (fun h => ?_)
      · rw [hT, show i = n by omega]
        exact kk
      · have h := xN (xc_ge _ _) h
        rw [hzT, i32_to (by omega), i32_to (by omega)] at h
        omega
    | succ m ih =>
      intro i hi
      obtain ⟨T, hT⟩ : ∃ T, T = (wr s 58 0 i (fun p => itf (ads (fun d => PL d p)) D 0)) := ⟨_, rfl⟩
      rw [← hT]
      have hk : ∀ k, k ≠ 58 → T k = s k := fun k q => by rw [hT]; exact wr_ne q
      have hzT : T 52 0 = Int32.ofNat n := (congrFun (hk 52 (by decide)) 0).trans hz
      have hdT : T 52 1 = Int32.ofNat D := (congrFun (hk 52 (by decide)) 1).trans hD1
      refine yp_run 3 (pc' := 7) (lv' := [(0, .ref 52), (1, .int (Int32.ofNat i))]) (st' := [.int (T 52 0), .int (Int32.ofNat i)]) (s' := T) rfl ?_
      refine yp_icmp rfl rfl (fun h => ?_) (fun h => ?_)
      · have h := xT (xc_ge _ _) h
        rw [hzT, i32_to (by omega), i32_to (by omega)] at h
        omega
      · refine yp_run 4 (pc' := 14) (lv' := [(0, .ref 52), (1, .int (Int32.ofNat i)), (2, .int 0), (3, .int 0)]) (st' := []) (s' := T) rfl ?_
        refine lz_ad (a0 := 0) (PL := (fun d => PL d i)) (by decide) (by omega) hD hdT (fun d hd9 => (congrFun (hk 54 (by decide)) _).trans (hP d i hd9 (by omega))) ?_ D 0 (Nat.zero_add _)
        refine yp_run 4 (pc' := 46) (lv' := [(0, .ref 52), (1, .int (Int32.ofNat i)), (2, .int (itf (ads (fun d => PL d i)) D 0)), (3, .int (Int32.ofNat D))]) (st' := [.int (itf (ads (fun d => PL d i)) D 0), .int (Int32.ofNat i), .ref 57]) (s' := T) rfl ?_
        refine yp_vi rfl rfl rfl rfl (c_rset rfl ?_)
        refine yp_run 2 (pc' := 2) (lv' := [(0, .ref 52), (1, .int ((Int32.ofNat i) + 1)), (2, .int (itf (ads (fun d => PL d i)) D 0)), (3, .int (Int32.ofNat D))]) (st' := []) (s' := (rset T 57 (Int32.ofNat i) (itf (ads (fun d => PL d i)) D 0))) rfl ?_
        have e9 : (rset T 57 (Int32.ofNat i) (itf (ads (fun d => PL d i)) D 0)) = (wr s 58 0 (i + 1) (fun p => itf (ads (fun d => PL d p)) D 0)) := by
          rw [rset_i (k := 57) (by show i < 8; omega), hT]
          exact wr_s (by omega) (rfl)
        have e8 := ih (i + 1) (by omega)
        rw [e9, i32_s]
        refine yp_sel [0, 1] ?_
        exact e8
def tot (D : Nat) (PL : Nat → Nat → Int32) (p : Nat) : Int32 := itf (ads (fun d => PL d p)) D 0
theorem c_addp {S n D : Nat} {PL : Nat → Nat → Int32} (hS : yss S) (hn : n ≤ 8) (hD : D ≤ 5) (hz : s S 0 = Int32.ofNat n) (hD1 : s S 1 = Int32.ofNat D) (hP : ∀ d p, d < D → p < n → s (S + 2) (d * 8 + p) = PL d p) (kk : Φ none (wr s (S + 6) 0 n (tot D PL))) : Yq sd 30 [.ref S] s Φ := by
  refine Yq.of rfl (Nat.le_of_ble_eq_true rfl) ?_
  rcases hS with rfl | rfl
  · have w1 : Yp sd 30 55 [(0, .ref 30), (1, .int (Int32.ofNat n))] [] (wr s 36 0 n (tot D PL)) Φ := by
      refine yp_rv rfl rfl ?_
      exact kk
    have w2 := lz_ao (by decide) hn hD hz hD1 hP w1 n 0 (Nat.zero_add _)
    rw [wr_0] at w2
    refine yp_run 2 (pc' := 2) (lv' := [(0, .ref 30), (1, .int 0)]) (st' := []) (s' := s) rfl ?_
    exact w2
  · have w1 : Yp sd 30 55 [(0, .ref 52), (1, .int (Int32.ofNat n))] [] (wr s 58 0 n (tot D PL)) Φ := by
      refine yp_rv rfl rfl ?_
      exact kk
    have w2 := lz_ao (by decide) hn hD hz hD1 hP w1 n 0 (Nat.zero_add _)
    rw [wr_0] at w2
    refine yp_run 2 (pc' := 2) (lv' := [(0, .ref 52), (1, .int 0)]) (st' := []) (s' := s) rfl ?_
    exact w2
/-- from p on, the first of m places that is enough; else what is behind n -/
def trN (n : Nat) (NB : Nat → Int32) (mj : Int32) : Nat → Nat → Nat
  | 0, _ => n + 1
  | m + 1, p => bif xcmp .lt (NB p) mj then trN n NB mj m (p + 1) else p
theorem trN_in {n : Nat} {NB : Nat → Int32} {mj : Int32} : ∀ (m i : Nat), i + m = n → 1 ≤ trN n NB mj m (i + 1) ∧ trN n NB mj m (i + 1) ≤ n + 1
  | 0, i, h => ⟨by show 1 ≤ n + 1; omega, Nat.le_refl _⟩
  | m + 1, i, h => by
    show 1 ≤ (bif _ then _ else _) ∧ (bif _ then _ else _) ≤ n + 1
    cases xcmp .lt (NB (i + 1)) mj with
    | true => exact trN_in m (i + 1) (by omega)
    | false => exact ⟨by show 1 ≤ i + 1; omega, by show i + 1 ≤ n + 1; omega⟩
theorem lz_tr {S n d p : Nat} {NB : Nat → Int32} {mj : Int32} (hS : yss S) (hn : n ≤ 7) (hd5 : d < 5) (hp : p < 8) (hz : s S 0 = Int32.ofNat n) (hN : ∀ q, 1 ≤ q → q ≤ n → s (S + 13) ((d * 8 + p) * 9 + q) = NB q) : ∀ m i : Nat, i + m = n → Φ (some (.int (Int32.ofNat (trN n NB mj m (i + 1))))) s →
    Yp sd 22 17 [(0, .ref S), (1, .int (Int32.ofNat d)), (2, .int (Int32.ofNat p)), (3, .int 0), (4, .int mj), (5, .int (Int32.ofNat (i + 1)))] [] s Φ := by
  intro m
  rcases hS with rfl | rfl
  · have hz : s 30 0 = Int32.ofNat n := hz
    induction m with
    | zero =>
      intro i hi kk
      refine yp_run 3 (pc' := 23) (lv' := [(0, .ref 30), (1, .int (Int32.ofNat d)), (2, .int (Int32.ofNat p)), (3, .int 0), (4, .int mj), (5, .int (Int32.ofNat (i + 1)))]) (st' := [.int (s 30 0), .int (Int32.ofNat (i + 1))]) (s' := s) rfl ?_
      refine yp_icmp rfl rfl (fun h => ?_) (fun h => ?_)
      · refine yp_run 4 (pc' := 64) (lv' := [(0, .ref 30), (1, .int (Int32.ofNat d)), (2, .int (Int32.ofNat p)), (3, .int 0), (4, .int mj), (5, .int (Int32.ofNat (i + 1)))]) (st' := [.int ((s 30 0) + 1)]) (s' := s) rfl ?_
        refine yp_ri rfl rfl ?_
        rw [hz, i32_s]
        exact kk
      · have h := xN (xc_gt _ _) h
        rw [hz, i32_to (by omega), i32_to (by omega)] at h
        omega
    | succ m ih =>
      intro i hi kk
      refine yp_run 3 (pc' := 23) (lv' := [(0, .ref 30), (1, .int (Int32.ofNat d)), (2, .int (Int32.ofNat p)), (3, .int 0), (4, .int mj), (5, .int (Int32.ofNat (i + 1)))]) (st' := [.int (s 30 0), .int (Int32.ofNat (i + 1))]) (s' := s) rfl ?_
      refine yp_icmp rfl rfl (fun h => ?_) (fun h => ?_)
      · have h := xT (xc_gt _ _) h
        rw [hz, i32_to (by omega), i32_to (by omega)] at h
        omega
      · refine yp_run 1 (pc' := 27) (lv' := [(0, .ref 30), (1, .int (Int32.ofNat d)), (2, .int (Int32.ofNat p)), (3, .int 0), (4, .int mj), (5, .int (Int32.ofNat (i + 1)))]) (st' := [.int 0]) (s' := s) rfl ?_
        refine yp_if rfl rfl (fun h27 => ?_) (fun h27 => ?_)
        · cases h27
        · refine yp_run 4 (pc' := 36) (lv' := [(0, .ref 30), (1, .int (Int32.ofNat d)), (2, .int (Int32.ofNat p)), (3, .int 0), (4, .int mj), (5, .int (Int32.ofNat (i + 1)))]) (st' := [.int (Int32.ofNat p), .int (Int32.ofNat d), .ref 41]) (s' := s) rfl ?_
          refine yp_st rfl rfl (c_rowOf ?_)
          refine yp_run 1 (pc' := 41) (lv' := [(0, .ref 30), (1, .int (Int32.ofNat d)), (2, .int (Int32.ofNat p)), (3, .int 0), (4, .int mj), (5, .int (Int32.ofNat (i + 1)))]) (st' := [.int (Int32.ofNat (i + 1)), .int ((Int32.ofNat d) * 8 + (Int32.ofNat p)), .ref 41]) (s' := s) rfl ?_
          have gN : gget s 42 (Int32.ofNat d * 8 + Int32.ofNat p) (Int32.ofNat (i + 1)) = NB (i + 1) := by rw [row_i]; exact (gget_i (k := 42) (by show i + 1 < 9; omega) (by decide) (by show (d * 8 + p) * 9 + (i + 1) < 360; omega)).trans (hN (i + 1) (by omega) (by omega))
          refine yp_vi rfl rfl rfl rfl (c_numv (by decide) gN ?_)
          refine yp_run 1 (pc' := 46) (lv' := [(0, .ref 30), (1, .int (Int32.ofNat d)), (2, .int (Int32.ofNat p)), (3, .int 0), (4, .int mj), (5, .int (Int32.ofNat (i + 1)))]) (st' := [.int mj, .int (NB (i + 1))]) (s' := s) rfl ?_
          refine yp_icmp rfl rfl (fun h46 => ?_) (fun h46 => ?_)
          · refine yp_run 2 (pc' := 17) (lv' := [(0, .ref 30), (1, .int (Int32.ofNat d)), (2, .int (Int32.ofNat p)), (3, .int 0), (4, .int mj), (5, .int ((Int32.ofNat (i + 1)) + 1))]) (st' := []) (s' := s) rfl ?_
            have kk : Φ (some (.int (Int32.ofNat (trN n NB mj m (i + 1 + 1))))) s := by
              have e9 : trN n NB mj (m + 1) (i + 1) = trN n NB mj m (i + 1 + 1) := by
                show (bif xcmp .lt (NB (i + 1)) mj then _ else _) = _
                rw [h46]
                rfl
              rw [← e9]
              exact kk
            rw [i32_s]
            refine yp_sel [0, 1, 2, 3, 4, 5] ?_
            exact ih (i + 1) (by omega) kk
          · refine yp_run 1 (pc' := 51) (lv' := [(0, .ref 30), (1, .int (Int32.ofNat d)), (2, .int (Int32.ofNat p)), (3, .int 0), (4, .int mj), (5, .int (Int32.ofNat (i + 1)))]) (st' := [.int (Int32.ofNat (i + 1))]) (s' := s) rfl ?_
            refine yp_ri rfl rfl ?_
            have e9 : trN n NB mj (m + 1) (i + 1) = i + 1 := by
              show (bif xcmp .lt (NB (i + 1)) mj then _ else _) = _
              rw [h46]
              rfl
            rw [e9] at kk
            exact kk
  · have hz : s 52 0 = Int32.ofNat n := hz
    induction m with
    | zero =>
      intro i hi kk
      refine yp_run 3 (pc' := 23) (lv' := [(0, .ref 52), (1, .int (Int32.ofNat d)), (2, .int (Int32.ofNat p)), (3, .int 0), (4, .int mj), (5, .int (Int32.ofNat (i + 1)))]) (st' := [.int (s 52 0), .int (Int32.ofNat (i + 1))]) (s' := s) rfl ?_
      refine yp_icmp rfl rfl (fun h => ?_) (fun h => ?_)
      · refine yp_run 4 (pc' := 64) (lv' := [(0, .ref 52), (1, .int (Int32.ofNat d)), (2, .int (Int32.ofNat p)), (3, .int 0), (4, .int mj), (5, .int (Int32.ofNat (i + 1)))]) (st' := [.int ((s 52 0) + 1)]) (s' := s) rfl ?_
        refine yp_ri rfl rfl ?_
        rw [hz, i32_s]
        exact kk
      · have h := xN (xc_gt _ _) h
        rw [hz, i32_to (by omega), i32_to (by omega)] at h
        omega
    | succ m ih =>
      intro i hi kk
      refine yp_run 3 (pc' := 23) (lv' := [(0, .ref 52), (1, .int (Int32.ofNat d)), (2, .int (Int32.ofNat p)), (3, .int 0), (4, .int mj), (5, .int (Int32.ofNat (i + 1)))]) (st' := [.int (s 52 0), .int (Int32.ofNat (i + 1))]) (s' := s) rfl ?_
      refine yp_icmp rfl rfl (fun h => ?_) (fun h => ?_)
      · have h := xT (xc_gt _ _) h
        rw [hz, i32_to (by omega), i32_to (by omega)] at h
        omega
      · refine yp_run 1 (pc' := 27) (lv' := [(0, .ref 52), (1, .int (Int32.ofNat d)), (2, .int (Int32.ofNat p)), (3, .int 0), (4, .int mj), (5, .int (Int32.ofNat (i + 1)))]) (st' := [.int 0]) (s' := s) rfl ?_
        refine yp_if rfl rfl (fun h27 => ?_) (fun h27 => ?_)
        · cases h27
        · refine yp_run 4 (pc' := 36) (lv' := [(0, .ref 52), (1, .int (Int32.ofNat d)), (2, .int (Int32.ofNat p)), (3, .int 0), (4, .int mj), (5, .int (Int32.ofNat (i + 1)))]) (st' := [.int (Int32.ofNat p), .int (Int32.ofNat d), .ref 63]) (s' := s) rfl ?_
          refine yp_st rfl rfl (c_rowOf ?_)
          refine yp_run 1 (pc' := 41) (lv' := [(0, .ref 52), (1, .int (Int32.ofNat d)), (2, .int (Int32.ofNat p)), (3, .int 0), (4, .int mj), (5, .int (Int32.ofNat (i + 1)))]) (st' := [.int (Int32.ofNat (i + 1)), .int ((Int32.ofNat d) * 8 + (Int32.ofNat p)), .ref 63]) (s' := s) rfl ?_
          have gN : gget s 64 (Int32.ofNat d * 8 + Int32.ofNat p) (Int32.ofNat (i + 1)) = NB (i + 1) := by rw [row_i]; exact (gget_i (k := 64) (by show i + 1 < 9; omega) (by decide) (by show (d * 8 + p) * 9 + (i + 1) < 360; omega)).trans (hN (i + 1) (by omega) (by omega))
          refine yp_vi rfl rfl rfl rfl (c_numv (by decide) gN ?_)
          refine yp_run 1 (pc' := 46) (lv' := [(0, .ref 52), (1, .int (Int32.ofNat d)), (2, .int (Int32.ofNat p)), (3, .int 0), (4, .int mj), (5, .int (Int32.ofNat (i + 1)))]) (st' := [.int mj, .int (NB (i + 1))]) (s' := s) rfl ?_
          refine yp_icmp rfl rfl (fun h46 => ?_) (fun h46 => ?_)
          · refine yp_run 2 (pc' := 17) (lv' := [(0, .ref 52), (1, .int (Int32.ofNat d)), (2, .int (Int32.ofNat p)), (3, .int 0), (4, .int mj), (5, .int ((Int32.ofNat (i + 1)) + 1))]) (st' := []) (s' := s) rfl ?_
            have kk : Φ (some (.int (Int32.ofNat (trN n NB mj m (i + 1 + 1))))) s := by
              have e9 : trN n NB mj (m + 1) (i + 1) = trN n NB mj m (i + 1 + 1) := by
                show (bif xcmp .lt (NB (i + 1)) mj then _ else _) = _
                rw [h46]
                rfl
              rw [← e9]
              exact kk
            rw [i32_s]
            refine yp_sel [0, 1, 2, 3, 4, 5] ?_
            exact ih (i + 1) (by omega) kk
          · refine yp_run 1 (pc' := 51) (lv' := [(0, .ref 52), (1, .int (Int32.ofNat d)), (2, .int (Int32.ofNat p)), (3, .int 0), (4, .int mj), (5, .int (Int32.ofNat (i + 1)))]) (st' := [.int (Int32.ofNat (i + 1))]) (s' := s) rfl ?_
            refine yp_ri rfl rfl ?_
            have e9 : trN n NB mj (m + 1) (i + 1) = i + 1 := by
              show (bif xcmp .lt (NB (i + 1)) mj then _ else _) = _
              rw [h46]
              rfl
            rw [e9] at kk
            exact kk
theorem c_turn {S n d p : Nat} {NB : Nat → Int32} {SH : Int32} (hS : yss S) (hn : n ≤ 7) (hd5 : d < 5) (hp : p < 8) (hz : s S 0 = Int32.ofNat n) (hN : ∀ q, 1 ≤ q → q ≤ n → s (S + 13) ((d * 8 + p) * 9 + q) = NB q) (hSH : s (S + 17) d = SH) (kk : Φ (some (.int (Int32.ofNat (trN n NB (SH / 2 + 1) n 1)))) s) : Yq sd 22 [.ref S, .int (Int32.ofNat d), .int (Int32.ofNat p), .int 0] s Φ := by
  refine Yq.of rfl (Nat.le_of_ble_eq_true rfl) ?_
  rcases hS with rfl | rfl
  · have hz : s 30 0 = Int32.ofNat n := hz
    refine yp_run 3 (pc' := 5) (lv' := [(0, .ref 30), (1, .int (Int32.ofNat d)), (2, .int (Int32.ofNat p)), (3, .int 0)]) (st' := [.int (Int32.ofNat d), .ref 46]) (s' := s) rfl ?_
    have gS : rget s 46 (Int32.ofNat d) = SH := (rget_i (by show d < 5; omega)).trans hSH
    refine yp_vi rfl rfl rfl rfl (c_rgetv rfl gS ?_)
    refine yp_run 7 (pc' := 17) (lv' := [(0, .ref 30), (1, .int (Int32.ofNat d)), (2, .int (Int32.ofNat p)), (3, .int 0), (4, .int ((SH / 2) + 1)), (5, .int 1)]) (st' := []) (s' := s) rfl ?_
    exact lz_tr (by decide) hn hd5 hp hz hN n 0 (Nat.zero_add n) kk
  · have hz : s 52 0 = Int32.ofNat n := hz
    refine yp_run 3 (pc' := 5) (lv' := [(0, .ref 52), (1, .int (Int32.ofNat d)), (2, .int (Int32.ofNat p)), (3, .int 0)]) (st' := [.int (Int32.ofNat d), .ref 68]) (s' := s) rfl ?_
    have gS : rget s 68 (Int32.ofNat d) = SH := (rget_i (by show d < 5; omega)).trans hSH
    refine yp_vi rfl rfl rfl rfl (c_rgetv rfl gS ?_)
    refine yp_run 7 (pc' := 17) (lv' := [(0, .ref 52), (1, .int (Int32.ofNat d)), (2, .int (Int32.ofNat p)), (3, .int 0), (4, .int ((SH / 2) + 1)), (5, .int 1)]) (st' := []) (s' := s) rfl ?_
    exact lz_tr (by decide) hn hd5 hp hz hN n 0 (Nat.zero_add n) kk
/-- the first difference of weights, from p on -/
def tcm (WA WB : Nat → Int32) : Nat → Nat → Int32
  | 0, _ => 0
  | m + 1, p => bif xcmp .eq (WB p - WA p) 0 then tcm WA WB m (p + 1) else WB p - WA p
theorem lz_tc {S n a b : Nat} {f : Int32} {WA WB : Nat → Int32} (hS : yss S) (hn : n ≤ 7) (ha : a < 40) (hb : b < 40) (hw : s (S + 11) 0 = Int32.ofNat n) (hWA : ∀ q, 1 ≤ q → q ≤ n → s (S + 15) (a * 9 + q) = WA q) (hWB : ∀ q, 1 ≤ q → q ≤ n → s (S + 15) (b * 9 + q) = WB q) : ∀ m i : Nat, 1 ≤ i → i + m = n + 1 → Φ (some (.int (tcm WA WB m i))) s →
    Yp sd 26 3 [(0, .ref (S + 11)), (1, .int (Int32.ofNat a)), (2, .int (Int32.ofNat b)), (3, .int f), (4, .int (Int32.ofNat i))] [] s Φ := by
  intro m
  rcases hS with rfl | rfl
  · have hw : s 41 0 = Int32.ofNat n := hw
    induction m with
    | zero =>
      intro i h1 hi kk
      refine yp_run 3 (pc' := 9) (lv' := [(0, .ref 41), (1, .int (Int32.ofNat a)), (2, .int (Int32.ofNat b)), (3, .int f), (4, .int (Int32.ofNat i))]) (st' := [.int (s 41 0), .int (Int32.ofNat i)]) (s' := s) rfl ?_
      refine yp_icmp rfl rfl (fun h => ?_) (fun h => ?_)
      · refine yp_run 1 (pc' := 50) (lv' := [(0, .ref 41), (1, .int (Int32.ofNat a)), (2, .int (Int32.ofNat b)), (3, .int f), (4, .int (Int32.ofNat i))]) (st' := [.int 0]) (s' := s) rfl ?_
        refine yp_ri rfl rfl ?_
        exact kk
      · have h := xN (xc_gt _ _) h
        rw [hw, i32_to (by omega), i32_to (by omega)] at h
        omega
    | succ m ih =>
      intro i h1 hi kk
      refine yp_run 3 (pc' := 9) (lv' := [(0, .ref 41), (1, .int (Int32.ofNat a)), (2, .int (Int32.ofNat b)), (3, .int f), (4, .int (Int32.ofNat i))]) (st' := [.int (s 41 0), .int (Int32.ofNat i)]) (s' := s) rfl ?_
      refine yp_icmp rfl rfl (fun h => ?_) (fun h => ?_)
      · have h := xT (xc_gt _ _) h
        rw [hw, i32_to (by omega), i32_to (by omega)] at h
        omega
      · refine yp_run 4 (pc' := 19) (lv' := [(0, .ref 41), (1, .int (Int32.ofNat a)), (2, .int (Int32.ofNat b)), (3, .int f), (4, .int (Int32.ofNat i))]) (st' := [.int (Int32.ofNat i), .int (Int32.ofNat b), .ref 44]) (s' := s) rfl ?_
        have gb : gget s 44 (Int32.ofNat b) (Int32.ofNat i) = WB i := (gget_i (k := 44) (by show i < 9; omega) (by decide) (by show b * 9 + i < 360; omega)).trans (hWB i h1 (by omega))
        refine yp_vi rfl rfl rfl rfl (c_ggetv rfl gb ?_)
        refine yp_run 4 (pc' := 29) (lv' := [(0, .ref 41), (1, .int (Int32.ofNat a)), (2, .int (Int32.ofNat b)), (3, .int f), (4, .int (Int32.ofNat i))]) (st' := [.int (Int32.ofNat i), .int (Int32.ofNat a), .ref 44, .int (WB i)]) (s' := s) rfl ?_
        have ga : gget s 44 (Int32.ofNat a) (Int32.ofNat i) = WA i := (gget_i (k := 44) (by show i < 9; omega) (by decide) (by show a * 9 + i < 360; omega)).trans (hWA i h1 (by omega))
        refine yp_vi rfl rfl rfl rfl (c_ggetv rfl ga ?_)
        refine yp_run 3 (pc' := 37) (lv' := [(0, .ref 41), (1, .int (Int32.ofNat a)), (2, .int (Int32.ofNat b)), (3, .int f), (4, .int (Int32.ofNat i)), (5, .int ((WB i) - (WA i)))]) (st' := [.int ((WB i) - (WA i))]) (s' := s) rfl ?_
        refine yp_if rfl rfl (fun h37 => ?_) (fun h37 => ?_)
        · refine yp_run 2 (pc' := 3) (lv' := [(0, .ref 41), (1, .int (Int32.ofNat a)), (2, .int (Int32.ofNat b)), (3, .int f), (4, .int ((Int32.ofNat i) + 1)), (5, .int ((WB i) - (WA i)))]) (st' := []) (s' := s) rfl ?_
          have e9 : tcm WA WB (m + 1) i = tcm WA WB m (i + 1) := by
            show (bif xcmp .eq (WB i - WA i) 0 then _ else _) = _
            rw [h37]
            rfl
          rw [e9] at kk
          rw [i32_s]
          refine yp_sel [0, 1, 2, 3, 4] ?_
          exact ih (i + 1) (by omega) (by omega) kk
        · refine yp_run 1 (pc' := 42) (lv' := [(0, .ref 41), (1, .int (Int32.ofNat a)), (2, .int (Int32.ofNat b)), (3, .int f), (4, .int (Int32.ofNat i)), (5, .int ((WB i) - (WA i)))]) (st' := [.int ((WB i) - (WA i))]) (s' := s) rfl ?_
          refine yp_ri rfl rfl ?_
          have e9 : tcm WA WB (m + 1) i = WB i - WA i := by
            show (bif xcmp .eq (WB i - WA i) 0 then _ else _) = _
            rw [h37]
            rfl
          rw [e9] at kk
          exact kk
  · have hw : s 63 0 = Int32.ofNat n := hw
    induction m with
    | zero =>
      intro i h1 hi kk
      refine yp_run 3 (pc' := 9) (lv' := [(0, .ref 63), (1, .int (Int32.ofNat a)), (2, .int (Int32.ofNat b)), (3, .int f), (4, .int (Int32.ofNat i))]) (st' := [.int (s 63 0), .int (Int32.ofNat i)]) (s' := s) rfl ?_
      refine yp_icmp rfl rfl (fun h => ?_) (fun h => ?_)
      · refine yp_run 1 (pc' := 50) (lv' := [(0, .ref 63), (1, .int (Int32.ofNat a)), (2, .int (Int32.ofNat b)), (3, .int f), (4, .int (Int32.ofNat i))]) (st' := [.int 0]) (s' := s) rfl ?_
        refine yp_ri rfl rfl ?_
        exact kk
      · have h := xN (xc_gt _ _) h
        rw [hw, i32_to (by omega), i32_to (by omega)] at h
        omega
    | succ m ih =>
      intro i h1 hi kk
      refine yp_run 3 (pc' := 9) (lv' := [(0, .ref 63), (1, .int (Int32.ofNat a)), (2, .int (Int32.ofNat b)), (3, .int f), (4, .int (Int32.ofNat i))]) (st' := [.int (s 63 0), .int (Int32.ofNat i)]) (s' := s) rfl ?_
      refine yp_icmp rfl rfl (fun h => ?_) (fun h => ?_)
      · have h := xT (xc_gt _ _) h
        rw [hw, i32_to (by omega), i32_to (by omega)] at h
        omega
      · refine yp_run 4 (pc' := 19) (lv' := [(0, .ref 63), (1, .int (Int32.ofNat a)), (2, .int (Int32.ofNat b)), (3, .int f), (4, .int (Int32.ofNat i))]) (st' := [.int (Int32.ofNat i), .int (Int32.ofNat b), .ref 66]) (s' := s) rfl ?_
        have gb : gget s 66 (Int32.ofNat b) (Int32.ofNat i) = WB i := (gget_i (k := 66) (by show i < 9; omega) (by decide) (by show b * 9 + i < 360; omega)).trans (hWB i h1 (by omega))
        refine yp_vi rfl rfl rfl rfl (c_ggetv rfl gb ?_)
        refine yp_run 4 (pc' := 29) (lv' := [(0, .ref 63), (1, .int (Int32.ofNat a)), (2, .int (Int32.ofNat b)), (3, .int f), (4, .int (Int32.ofNat i))]) (st' := [.int (Int32.ofNat i), .int (Int32.ofNat a), .ref 66, .int (WB i)]) (s' := s) rfl ?_
        have ga : gget s 66 (Int32.ofNat a) (Int32.ofNat i) = WA i := (gget_i (k := 66) (by show i < 9; omega) (by decide) (by show a * 9 + i < 360; omega)).trans (hWA i h1 (by omega))
        refine yp_vi rfl rfl rfl rfl (c_ggetv rfl ga ?_)
        refine yp_run 3 (pc' := 37) (lv' := [(0, .ref 63), (1, .int (Int32.ofNat a)), (2, .int (Int32.ofNat b)), (3, .int f), (4, .int (Int32.ofNat i)), (5, .int ((WB i) - (WA i)))]) (st' := [.int ((WB i) - (WA i))]) (s' := s) rfl ?_
        refine yp_if rfl rfl (fun h37 => ?_) (fun h37 => ?_)
        · refine yp_run 2 (pc' := 3) (lv' := [(0, .ref 63), (1, .int (Int32.ofNat a)), (2, .int (Int32.ofNat b)), (3, .int f), (4, .int ((Int32.ofNat i) + 1)), (5, .int ((WB i) - (WA i)))]) (st' := []) (s' := s) rfl ?_
          have e9 : tcm WA WB (m + 1) i = tcm WA WB m (i + 1) := by
            show (bif xcmp .eq (WB i - WA i) 0 then _ else _) = _
            rw [h37]
            rfl
          rw [e9] at kk
          rw [i32_s]
          refine yp_sel [0, 1, 2, 3, 4] ?_
          exact ih (i + 1) (by omega) (by omega) kk
        · refine yp_run 1 (pc' := 42) (lv' := [(0, .ref 63), (1, .int (Int32.ofNat a)), (2, .int (Int32.ofNat b)), (3, .int f), (4, .int (Int32.ofNat i)), (5, .int ((WB i) - (WA i)))]) (st' := [.int ((WB i) - (WA i))]) (s' := s) rfl ?_
          refine yp_ri rfl rfl ?_
          have e9 : tcm WA WB (m + 1) i = WB i - WA i := by
            show (bif xcmp .eq (WB i - WA i) 0 then _ else _) = _
            rw [h37]
            rfl
          rw [e9] at kk
          exact kk
theorem c_comp {S n a b f : Nat} {WA WB : Nat → Int32} (hS : yss S) (hn : n ≤ 7) (ha : a < 40) (hb : b < 40) (hw : s (S + 11) 0 = Int32.ofNat n) (hWA : ∀ q, 1 ≤ q → q ≤ n → s (S + 15) (a * 9 + q) = WA q) (hWB : ∀ q, 1 ≤ q → q ≤ n → s (S + 15) (b * 9 + q) = WB q) (hf1 : 1 ≤ f) (hf2 : f ≤ n + 1) (kk : Φ (some (.int (tcm WA WB (n + 1 - f) f))) s) : Yq sd 26 [.ref (S + 11), .int (Int32.ofNat a), .int (Int32.ofNat b), .int (Int32.ofNat f)] s Φ := by
  refine Yq.of rfl (Nat.le_of_ble_eq_true rfl) ?_
  rcases hS with rfl | rfl
  · have hw : s 41 0 = Int32.ofNat n := hw
    refine yp_run 2 (pc' := 3) (lv' := [(0, .ref 41), (1, .int (Int32.ofNat a)), (2, .int (Int32.ofNat b)), (3, .int (Int32.ofNat f)), (4, .int (Int32.ofNat f))]) (st' := []) (s' := s) rfl ?_
    exact lz_tc (by decide) hn ha hb hw hWA hWB (n + 1 - f) f hf1 (by omega) kk
  · have hw : s 63 0 = Int32.ofNat n := hw
    refine yp_run 2 (pc' := 3) (lv' := [(0, .ref 63), (1, .int (Int32.ofNat a)), (2, .int (Int32.ofNat b)), (3, .int (Int32.ofNat f)), (4, .int (Int32.ofNat f))]) (st' := []) (s' := s) rfl ?_
    exact lz_tc (by decide) hn ha hb hw hWA hWB (n + 1 - f) f hf1 (by omega) kk
def cmd (n : Nat) (TR : Nat → Nat) (WG : Nat → Nat → Int32) (a b : Nat) : Int32 := bif xcmp .eq (Int32.ofNat (TR a) - Int32.ofNat (TR b)) 0 then tcm (WG a) (WG b) (n + 1 - TR a) (TR a) else Int32.ofNat (TR a) - Int32.ofNat (TR b)
theorem c_cmpD {S n d a b : Nat} {TR : Nat → Nat} {WG : Nat → Nat → Int32} (hS : yss S) (hn : n ≤ 7) (hd5 : d < 5) (han : a < n) (hbn : b < n) (hw : s (S + 11) 0 = Int32.ofNat n) (hTR : ∀ p, p < n → s (S + 19) p = Int32.ofNat (TR p)) (hT1 : ∀ p, p < n → 1 ≤ TR p ∧ TR p ≤ n + 1) (hWG : ∀ p q, p < n → 1 ≤ q → q ≤ n → s (S + 15) ((d * 8 + p) * 9 + q) = WG p q) (kk : Φ (some (.int (cmd n TR WG a b))) s) : Yq sd 25 [.ref S, .int (Int32.ofNat d), .int (Int32.ofNat a), .int (Int32.ofNat b)] s Φ := by
  refine Yq.of rfl (Nat.le_of_ble_eq_true rfl) ?_
  rcases hS with rfl | rfl
  · refine yp_run 3 (pc' := 5) (lv' := [(0, .ref 30), (1, .int (Int32.ofNat d)), (2, .int (Int32.ofNat a)), (3, .int (Int32.ofNat b))]) (st' := [.int (Int32.ofNat a), .ref 48]) (s' := s) rfl ?_
    have ta : rget s 48 (Int32.ofNat a) = Int32.ofNat (TR a) := (rget_i (by show a < 8; omega)).trans (hTR a han)
    refine yp_vi rfl rfl rfl rfl (c_rgetv rfl ta ?_)
    refine yp_run 5 (pc' := 17) (lv' := [(0, .ref 30), (1, .int (Int32.ofNat d)), (2, .int (Int32.ofNat a)), (3, .int (Int32.ofNat b)), (4, .int (Int32.ofNat (TR a)))]) (st' := [.int (Int32.ofNat b), .ref 48, .int (Int32.ofNat (TR a))]) (s' := s) rfl ?_
    have tb : rget s 48 (Int32.ofNat b) = Int32.ofNat (TR b) := (rget_i (by show b < 8; omega)).trans (hTR b hbn)
    refine yp_vi rfl rfl rfl rfl (c_rgetv rfl tb ?_)
    refine yp_run 3 (pc' := 25) (lv' := [(0, .ref 30), (1, .int (Int32.ofNat d)), (2, .int (Int32.ofNat a)), (3, .int (Int32.ofNat b)), (4, .int (Int32.ofNat (TR a))), (5, .int ((Int32.ofNat (TR a)) - (Int32.ofNat (TR b))))]) (st' := [.int ((Int32.ofNat (TR a)) - (Int32.ofNat (TR b)))]) (s' := s) rfl ?_
    refine yp_if rfl rfl (fun h25 => ?_) (fun h25 => ?_)
    · refine yp_run 4 (pc' := 39) (lv' := [(0, .ref 30), (1, .int (Int32.ofNat d)), (2, .int (Int32.ofNat a)), (3, .int (Int32.ofNat b)), (4, .int (Int32.ofNat (TR a))), (5, .int ((Int32.ofNat (TR a)) - (Int32.ofNat (TR b))))]) (st' := [.int (Int32.ofNat a), .int (Int32.ofNat d), .ref 41]) (s' := s) rfl ?_
      refine yp_st rfl rfl (c_rowOf ?_)
      refine yp_run 2 (pc' := 44) (lv' := [(0, .ref 30), (1, .int (Int32.ofNat d)), (2, .int (Int32.ofNat a)), (3, .int (Int32.ofNat b)), (4, .int (Int32.ofNat (TR a))), (5, .int ((Int32.ofNat (TR a)) - (Int32.ofNat (TR b))))]) (st' := [.int (Int32.ofNat b), .int (Int32.ofNat d), .int ((Int32.ofNat d) * 8 + (Int32.ofNat a)), .ref 41]) (s' := s) rfl ?_
      refine yp_st rfl rfl (c_rowOf ?_)
      refine yp_run 1 (pc' := 49) (lv' := [(0, .ref 30), (1, .int (Int32.ofNat d)), (2, .int (Int32.ofNat a)), (3, .int (Int32.ofNat b)), (4, .int (Int32.ofNat (TR a))), (5, .int ((Int32.ofNat (TR a)) - (Int32.ofNat (TR b))))]) (st' := [.int (Int32.ofNat (TR a)), .int ((Int32.ofNat d) * 8 + (Int32.ofNat b)), .int ((Int32.ofNat d) * 8 + (Int32.ofNat a)), .ref 41]) (s' := s) rfl ?_
      rw [row_i, row_i]
      have q1 := hT1 a han
      refine yp_vi rfl rfl rfl rfl (c_comp (a := d * 8 + a) (b := d * 8 + b) (WA := WG a) (WB := WG b) (by decide) hn (by omega) (by omega) hw (fun q h1 h2 => hWG a q han h1 h2) (fun q h1 h2 => hWG b q hbn h1 h2) q1.1 q1.2 ?_)
      refine yp_ri rfl rfl ?_
      unfold cmd at kk
      rw [h25] at kk
      exact kk
    · refine yp_run 2 (pc' := 52) (lv' := [(0, .ref 30), (1, .int (Int32.ofNat d)), (2, .int (Int32.ofNat a)), (3, .int (Int32.ofNat b)), (4, .int (Int32.ofNat (TR a))), (5, .int ((Int32.ofNat (TR a)) - (Int32.ofNat (TR b))))]) (st' := [.int ((Int32.ofNat (TR a)) - (Int32.ofNat (TR b)))]) (s' := s) rfl ?_
      refine yp_ri rfl rfl ?_
      unfold cmd at kk
      rw [h25] at kk
      exact kk
  · refine yp_run 3 (pc' := 5) (lv' := [(0, .ref 52), (1, .int (Int32.ofNat d)), (2, .int (Int32.ofNat a)), (3, .int (Int32.ofNat b))]) (st' := [.int (Int32.ofNat a), .ref 70]) (s' := s) rfl ?_
    have ta : rget s 70 (Int32.ofNat a) = Int32.ofNat (TR a) := (rget_i (by show a < 8; omega)).trans (hTR a han)
    refine yp_vi rfl rfl rfl rfl (c_rgetv rfl ta ?_)
    refine yp_run 5 (pc' := 17) (lv' := [(0, .ref 52), (1, .int (Int32.ofNat d)), (2, .int (Int32.ofNat a)), (3, .int (Int32.ofNat b)), (4, .int (Int32.ofNat (TR a)))]) (st' := [.int (Int32.ofNat b), .ref 70, .int (Int32.ofNat (TR a))]) (s' := s) rfl ?_
    have tb : rget s 70 (Int32.ofNat b) = Int32.ofNat (TR b) := (rget_i (by show b < 8; omega)).trans (hTR b hbn)
    refine yp_vi rfl rfl rfl rfl (c_rgetv rfl tb ?_)
    refine yp_run 3 (pc' := 25) (lv' := [(0, .ref 52), (1, .int (Int32.ofNat d)), (2, .int (Int32.ofNat a)), (3, .int (Int32.ofNat b)), (4, .int (Int32.ofNat (TR a))), (5, .int ((Int32.ofNat (TR a)) - (Int32.ofNat (TR b))))]) (st' := [.int ((Int32.ofNat (TR a)) - (Int32.ofNat (TR b)))]) (s' := s) rfl ?_
    refine yp_if rfl rfl (fun h25 => ?_) (fun h25 => ?_)
    · refine yp_run 4 (pc' := 39) (lv' := [(0, .ref 52), (1, .int (Int32.ofNat d)), (2, .int (Int32.ofNat a)), (3, .int (Int32.ofNat b)), (4, .int (Int32.ofNat (TR a))), (5, .int ((Int32.ofNat (TR a)) - (Int32.ofNat (TR b))))]) (st' := [.int (Int32.ofNat a), .int (Int32.ofNat d), .ref 63]) (s' := s) rfl ?_
      refine yp_st rfl rfl (c_rowOf ?_)
      refine yp_run 2 (pc' := 44) (lv' := [(0, .ref 52), (1, .int (Int32.ofNat d)), (2, .int (Int32.ofNat a)), (3, .int (Int32.ofNat b)), (4, .int (Int32.ofNat (TR a))), (5, .int ((Int32.ofNat (TR a)) - (Int32.ofNat (TR b))))]) (st' := [.int (Int32.ofNat b), .int (Int32.ofNat d), .int ((Int32.ofNat d) * 8 + (Int32.ofNat a)), .ref 63]) (s' := s) rfl ?_
      refine yp_st rfl rfl (c_rowOf ?_)
      refine yp_run 1 (pc' := 49) (lv' := [(0, .ref 52), (1, .int (Int32.ofNat d)), (2, .int (Int32.ofNat a)), (3, .int (Int32.ofNat b)), (4, .int (Int32.ofNat (TR a))), (5, .int ((Int32.ofNat (TR a)) - (Int32.ofNat (TR b))))]) (st' := [.int (Int32.ofNat (TR a)), .int ((Int32.ofNat d) * 8 + (Int32.ofNat b)), .int ((Int32.ofNat d) * 8 + (Int32.ofNat a)), .ref 63]) (s' := s) rfl ?_
      rw [row_i, row_i]
      have q1 := hT1 a han
      refine yp_vi rfl rfl rfl rfl (c_comp (a := d * 8 + a) (b := d * 8 + b) (WA := WG a) (WB := WG b) (by decide) hn (by omega) (by omega) hw (fun q h1 h2 => hWG a q han h1 h2) (fun q h1 h2 => hWG b q hbn h1 h2) q1.1 q1.2 ?_)
      refine yp_ri rfl rfl ?_
      unfold cmd at kk
      rw [h25] at kk
      exact kk
    · refine yp_run 2 (pc' := 52) (lv' := [(0, .ref 52), (1, .int (Int32.ofNat d)), (2, .int (Int32.ofNat a)), (3, .int (Int32.ofNat b)), (4, .int (Int32.ofNat (TR a))), (5, .int ((Int32.ofNat (TR a)) - (Int32.ofNat (TR b))))]) (st' := [.int ((Int32.ofNat (TR a)) - (Int32.ofNat (TR b)))]) (s' := s) rfl ?_
      refine yp_ri rfl rfl ?_
      unfold cmd at kk
      rw [h25] at kk
      exact kk
end YQ2
