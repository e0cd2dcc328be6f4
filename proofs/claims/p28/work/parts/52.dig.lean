/-! the checksum -/
section YAE
variable {sd : Option (List Int32)} {μ pc : Nat} {lv : xL} {st : List Value} {s : yS} {Φ : Option Value → yS → Prop}
def dst (x : Int64) (v : Int32) : Int64 := x * 31 + v.toInt64
def dfl (V : Nat → Int32) : Nat → Int64 → Int64
  | 0, x => x
  | i + 1, x => dst (dfl V i x) (V i)
def rsV (n D : Nat) (E : Nat → Nat → Nat → Int32) (c : Nat) : Nat → Int32
  | 0 => EPf n D E c
  | 1 => ERf n D E c
  | _ => TTf n D E c
theorem c_resu {n D J : Nat} {P : Int32} {cl jc m : Nat → Int32} {c w : Nat} (hw : w < 3) (hn : n ≤ 7) (hF : finF s n D J P cl jc m) (hc : c < n) (kk : Φ (some (.int (rsV n D (ef 0 m) c w))) s) : Yq sd 39 [.ref 0, .int (Int32.ofNat c), .int (Int32.ofNat w)] s Φ := by
  rcases (show w = 0 ∨ w = 1 ∨ w = 2 by omega) with rfl | rfl | rfl
  · exact c_res0 hn hF hc kk
  · exact c_res1 hn hF hc kk
  · exact c_res2 hn hF hc kk
def dfB (n : Nat) (E : Nat → Nat → Nat → Int32) (c : Nat) : Nat → Int64 → Int64
  | 0, x => x
  | d + 1, x => dst (dst (dst (dfB n E c d x) (PLf n E d c)) (RSf n E d c)) (pre (Cf E d c) 1)
theorem lz_fa {n D J : Nat} {P : Int32} {cl jc m : Nat → Int32} {c : Nat} {x0 x : Int64} (hD : D ≤ 5) (hn : n ≤ 7) (hF : finF s n D J P cl jc m) (hc : c < n) (kk : Yp sd 60 35 [(0, .ref 0), (1, .long x0), (3, .int (Int32.ofNat c)), (4, .long (dfl (rsV n D (ef 0 m) c) 3 x)), (6, .int (Int32.ofNat 3))] [] s Φ) : ∀ k i : Nat, i + k = 3 → Yp sd 60 6 [(0, .ref 0), (1, .long x0), (3, .int (Int32.ofNat c)), (4, .long (dfl (rsV n D (ef 0 m) c) i x)), (6, .int (Int32.ofNat i))] [] s Φ := by
  intro k
  induction k with
  | zero =>
    intro i hi
    refine yp_run 2 (pc' := 9) (lv' := [(0, .ref 0), (1, .long x0), (3, .int (Int32.ofNat c)), (4, .long (dfl (rsV n D (ef 0 m) c) i x)), (6, .int (Int32.ofNat i))]) (st' := [.int 2, .int (Int32.ofNat i)]) (s' := s) rfl ?_
    refine yp_icmp rfl rfl (fun h => ?_) (fun h => ?_)
    · rw [show i = 3 by omega]
      exact kk
    · have h := xN (xc_gt _ _) h
      rw [show (2 : Int32).toInt = 2 from rfl, i32_to (by omega)] at h
      omega
  | succ k ih =>
    intro i hi
    refine yp_run 2 (pc' := 9) (lv' := [(0, .ref 0), (1, .long x0), (3, .int (Int32.ofNat c)), (4, .long (dfl (rsV n D (ef 0 m) c) i x)), (6, .int (Int32.ofNat i))]) (st' := [.int 2, .int (Int32.ofNat i)]) (s' := s) rfl ?_
    refine yp_icmp rfl rfl (fun h => ?_) (fun h => ?_)
    · have h := xT (xc_gt _ _) h
      rw [show (2 : Int32).toInt = 2 from rfl, i32_to (by omega)] at h
      omega
    · refine yp_run 6 (pc' := 22) (lv' := [(0, .ref 0), (1, .long x0), (3, .int (Int32.ofNat c)), (4, .long (dfl (rsV n D (ef 0 m) c) i x)), (6, .int (Int32.ofNat i))]) (st' := [.int (Int32.ofNat i), .int (Int32.ofNat c), .ref 0, .long ((dfl (rsV n D (ef 0 m) c) i x) * (31 : Int64))]) (s' := s) rfl ?_
      refine yp_vi rfl rfl rfl rfl (c_resu (by omega) hn hF hc ?_)
      refine yp_run 5 (pc' := 6) (lv' := [(0, .ref 0), (1, .long x0), (3, .int (Int32.ofNat c)), (4, .long (((dfl (rsV n D (ef 0 m) c) i x) * (31 : Int64)) + (((rsV n D (ef 0 m) c i) : Int32).toInt64))), (6, .int ((Int32.ofNat i) + 1))]) (st' := []) (s' := s) rfl ?_
      rw [i32_s]
      refine yp_sel [0, 1, 3, 4, 6] ?_
      exact ih (i + 1) (by omega)
theorem lz_fb {n D J : Nat} {P : Int32} {cl jc m : Nat → Int32} {c : Nat} {x0 x : Int64} (hD : D ≤ 5) (hn : n ≤ 7) (hF : finF s n D J P cl jc m) (hc : c < n) (kk : Yp sd 60 110 [(0, .ref 0), (1, .long x0), (3, .int (Int32.ofNat c)), (4, .long (dfB n (ef 0 m) c D x)), (6, .int (Int32.ofNat D))] [] s Φ) : ∀ k i : Nat, i + k = D → Yp sd 60 38 [(0, .ref 0), (1, .long x0), (3, .int (Int32.ofNat c)), (4, .long (dfB n (ef 0 m) c i x)), (6, .int (Int32.ofNat i))] [] s Φ := by
  intro k
  induction k with
  | zero =>
    intro i hi
    refine yp_run 4 (pc' := 47) (lv' := [(0, .ref 0), (1, .long x0), (3, .int (Int32.ofNat c)), (4, .long (dfB n (ef 0 m) c i x)), (6, .int (Int32.ofNat i))]) (st' := [.int (s 15 4), .int (Int32.ofNat i)]) (s' := s) rfl ?_
    refine yp_icmp rfl rfl (fun h => ?_) (fun h => ?_)
    · rw [show i = D by omega]
      exact kk
    · have h := xN (xc_ge _ _) h
      rw [hF.1.2.2.2.2.2.2.2.2.2.2.2.2.2.2.1, i32_to (by omega), i32_to (by omega)] at h
      omega
  | succ k ih =>
    intro i hi
    refine yp_run 4 (pc' := 47) (lv' := [(0, .ref 0), (1, .long x0), (3, .int (Int32.ofNat c)), (4, .long (dfB n (ef 0 m) c i x)), (6, .int (Int32.ofNat i))]) (st' := [.int (s 15 4), .int (Int32.ofNat i)]) (s' := s) rfl ?_
    refine yp_icmp rfl rfl (fun h => ?_) (fun h => ?_)
    · have h := xT (xc_ge _ _) h
      rw [hF.1.2.2.2.2.2.2.2.2.2.2.2.2.2.2.1, i32_to (by omega), i32_to (by omega)] at h
      omega
    · refine yp_run 7 (pc' := 61) (lv' := [(0, .ref 0), (1, .long x0), (3, .int (Int32.ofNat c)), (4, .long (dfB n (ef 0 m) c i x)), (6, .int (Int32.ofNat i))]) (st' := [.int 0, .int (Int32.ofNat i), .int (Int32.ofNat c), .ref 0, .long ((dfB n (ef 0 m) c i x) * (31 : Int64))]) (s' := s) rfl ?_
      refine yp_vi rfl rfl rfl rfl (c_pla0 hD hn hF hc (by omega) ?_)
      refine yp_run 10 (pc' := 79) (lv' := [(0, .ref 0), (1, .long x0), (3, .int (Int32.ofNat c)), (4, .long (((dfB n (ef 0 m) c i x) * (31 : Int64)) + (((PLf n (ef 0 m) i c) : Int32).toInt64))), (6, .int (Int32.ofNat i))]) (st' := [.int 1, .int (Int32.ofNat i), .int (Int32.ofNat c), .ref 0, .long ((((dfB n (ef 0 m) c i x) * (31 : Int64)) + (((PLf n (ef 0 m) i c) : Int32).toInt64)) * (31 : Int64))]) (s' := s) rfl ?_
      refine yp_vi rfl rfl rfl rfl (c_pla1 hD hn hF hc (by omega) ?_)
      refine yp_run 10 (pc' := 97) (lv' := [(0, .ref 0), (1, .long x0), (3, .int (Int32.ofNat c)), (4, .long (((((dfB n (ef 0 m) c i x) * (31 : Int64)) + (((PLf n (ef 0 m) i c) : Int32).toInt64)) * (31 : Int64)) + (((RSf n (ef 0 m) i c) : Int32).toInt64))), (6, .int (Int32.ofNat i))]) (st' := [.int 1, .int (Int32.ofNat i), .int (Int32.ofNat c), .ref 0, .long ((((((dfB n (ef 0 m) c i x) * (31 : Int64)) + (((PLf n (ef 0 m) i c) : Int32).toInt64)) * (31 : Int64)) + (((RSf n (ef 0 m) i c) : Int32).toInt64)) * (31 : Int64))]) (s' := s) rfl ?_
      refine yp_vi rfl rfl rfl rfl (c_vote hD hn hF hc (by omega) ?_)
      refine yp_run 5 (pc' := 38) (lv' := [(0, .ref 0), (1, .long x0), (3, .int (Int32.ofNat c)), (4, .long (((((((dfB n (ef 0 m) c i x) * (31 : Int64)) + (((PLf n (ef 0 m) i c) : Int32).toInt64)) * (31 : Int64)) + (((RSf n (ef 0 m) i c) : Int32).toInt64)) * (31 : Int64)) + (((pre (Cf (ef 0 m) i c) 1) : Int32).toInt64))), (6, .int ((Int32.ofNat i) + 1))]) (st' := []) (s' := s) rfl ?_
      rw [i32_s]
      refine yp_sel [0, 1, 3, 4, 6] ?_
      exact ih (i + 1) (by omega)
theorem c_digF {n D J : Nat} {P : Int32} {cl jc m : Nat → Int32} {c : Nat} {x : Int64} (hD : D ≤ 5) (hn : n ≤ 7) (hF : finF s n D J P cl jc m) (hc : c < n) (kk : Φ (some (.long (dfB n (ef 0 m) c D (dfl (rsV n D (ef 0 m) c) 3 x)))) s) : Yq sd 60 [.ref 0, .long x, .int (Int32.ofNat c)] s Φ := by
  refine Yq.of rfl (Nat.le_of_ble_eq_true rfl) ?_
  refine yp_run 4 (pc' := 6) (lv' := [(0, .ref 0), (1, .long x), (3, .int (Int32.ofNat c)), (4, .long x), (6, .int 0)]) (st' := []) (s' := s) rfl ?_
  have w1 : Yp sd 60 110 [(0, .ref 0), (1, .long x), (3, .int (Int32.ofNat c)), (4, .long (dfB n (ef 0 m) c D (dfl (rsV n D (ef 0 m) c) 3 x))), (6, .int (Int32.ofNat D))] [] s Φ := yp_run 1 rfl (yp_rl rfl rfl kk)
  have w2 := lz_fb (x0 := x) (x := (dfl (rsV n D (ef 0 m) c) 3 x)) hD hn hF hc w1 D 0 (Nat.zero_add D)
  refine lz_fa (x0 := x) (x := x) hD hn hF hc ?_ 3 0 rfl
  refine yp_run 2 (pc' := 38) (lv' := [(0, .ref 0), (1, .long x), (3, .int (Int32.ofNat c)), (4, .long (dfl (rsV n D (ef 0 m) c) 3 x)), (6, .int 0)]) (st' := []) (s' := s) rfl ?_
  exact w2
theorem lz_ca {n D J : Nat} {P : Int32} {cl jc m : Nat → Int32} {c : Nat} {x0 x : Int64} (hD : D ≤ 5) (hn : n ≤ 7) (hF : finF s n D J P cl jc m) (hc : c < n) (kk : Yp sd 53 36 [(0, .ref 0), (1, .long x0), (3, .int (Int32.ofNat c)), (4, .long (dfl (ocV cl c) 8 x)), (6, .int (Int32.ofNat 8))] [] s Φ) : ∀ k i : Nat, i + k = 8 → Yp sd 53 6 [(0, .ref 0), (1, .long x0), (3, .int (Int32.ofNat c)), (4, .long (dfl (ocV cl c) i x)), (6, .int (Int32.ofNat i))] [] s Φ := by
  intro k
  induction k with
  | zero =>
    intro i hi
    refine yp_run 2 (pc' := 10) (lv' := [(0, .ref 0), (1, .long x0), (3, .int (Int32.ofNat c)), (4, .long (dfl (ocV cl c) i x)), (6, .int (Int32.ofNat i))]) (st' := [.int 7, .int (Int32.ofNat i)]) (s' := s) rfl ?_
    refine yp_icmp rfl rfl (fun h => ?_) (fun h => ?_)
    · rw [show i = 8 by omega]
      exact kk
    · have h := xN (xc_gt _ _) h
      rw [show (7 : Int32).toInt = 7 from rfl, i32_to (by omega)] at h
      omega
  | succ k ih =>
    intro i hi
    refine yp_run 2 (pc' := 10) (lv' := [(0, .ref 0), (1, .long x0), (3, .int (Int32.ofNat c)), (4, .long (dfl (ocV cl c) i x)), (6, .int (Int32.ofNat i))]) (st' := [.int 7, .int (Int32.ofNat i)]) (s' := s) rfl ?_
    refine yp_icmp rfl rfl (fun h => ?_) (fun h => ?_)
    · have h := xT (xc_gt _ _) h
      rw [show (7 : Int32).toInt = 7 from rfl, i32_to (by omega)] at h
      omega
    · refine yp_run 6 (pc' := 23) (lv' := [(0, .ref 0), (1, .long x0), (3, .int (Int32.ofNat c)), (4, .long (dfl (ocV cl c) i x)), (6, .int (Int32.ofNat i))]) (st' := [.int (Int32.ofNat i), .int (Int32.ofNat c), .ref 0, .long ((dfl (ocV cl c) i x) * (31 : Int64))]) (s' := s) rfl ?_
      refine yp_vi rfl rfl rfl rfl (c_ofCo (by omega) hD hn hF hc ?_)
      refine yp_run 5 (pc' := 6) (lv' := [(0, .ref 0), (1, .long x0), (3, .int (Int32.ofNat c)), (4, .long (((dfl (ocV cl c) i x) * (31 : Int64)) + (((ocV cl c i) : Int32).toInt64))), (6, .int ((Int32.ofNat i) + 1))]) (st' := []) (s' := s) rfl ?_
      rw [i32_s]
      refine yp_sel [0, 1, 3, 4, 6] ?_
      exact ih (i + 1) (by omega)
def dgC (n D : Nat) (cl m : Nat → Int32) (c : Nat) (x : Int64) : Int64 := dfB n (ef 0 m) c D (dfl (rsV n D (ef 0 m) c) 3 (dst (dfl (ocV cl c) 8 x) 0))
theorem c_digC {n D J : Nat} {P : Int32} {cl jc m : Nat → Int32} {c : Nat} {x : Int64} (hD : D ≤ 5) (hn : n ≤ 7) (hF : finF s n D J P cl jc m) (hc : c < n) (kk : Φ (some (.long (dgC n D cl m c x))) s) : Yq sd 53 [.ref 0, .long x, .int (Int32.ofNat c)] s Φ := by
  refine Yq.of rfl (Nat.le_of_ble_eq_true rfl) ?_
  have b0 := hF.1.1
  have b12 := hF.1.2.2.2.2.2.2.2.2.2.2.2.2.1
  refine yp_run 4 (pc' := 6) (lv' := [(0, .ref 0), (1, .long x), (3, .int (Int32.ofNat c)), (4, .long x), (6, .int 0)]) (st' := []) (s' := s) rfl ?_
  refine lz_ca (x0 := x) (x := x) hD hn hF hc ?_ 8 0 rfl
  refine yp_run 6 (pc' := 45) (lv' := [(0, .ref 0), (1, .long x), (3, .int (Int32.ofNat c)), (4, .long (dfl (ocV cl c) 8 x)), (6, .int (Int32.ofNat 8))]) (st' := [.int 0, .int (Int32.ofNat c), .ref 0, .long ((dfl (ocV cl c) 8 x) * (31 : Int64))]) (s' := s) rfl ?_
  refine yp_vi rfl rfl rfl rfl (c_meet hD hn hF hc ?_)
  refine yp_run 5 (pc' := 56) (lv' := [(0, .ref 0), (1, .long x), (3, .int (Int32.ofNat c)), (4, .long (((dfl (ocV cl c) 8 x) * (31 : Int64)) + ((0 : Int32).toInt64))), (6, .int (Int32.ofNat 8))]) (st' := [.int (s 0 7)]) (s' := s) rfl ?_
  refine yp_if rfl rfl (fun h56 => ?_) (fun h56 => ?_)
  · rw [b0] at h56; cases h56
  · refine yp_run 4 (pc' := 67) (lv' := [(0, .ref 0), (1, .long x), (3, .int (Int32.ofNat c)), (4, .long (((dfl (ocV cl c) 8 x) * (31 : Int64)) + ((0 : Int32).toInt64))), (6, .int (Int32.ofNat 8))]) (st' := [.int (Int32.ofNat c), .int (s 15 2)]) (s' := s) rfl ?_
    refine yp_st rfl rfl (c_hold ?_)
    refine yp_if rfl rfl (fun h70 => ?_) (fun h70 => ?_)
    · exact absurd ((all_in (by omega) (by omega)).mpr hc) (by rw [← b12]; exact hd_eqT h70)
    · refine yp_run 3 (pc' := 77) (lv' := [(0, .ref 0), (1, .long x), (3, .int (Int32.ofNat c)), (4, .long (((dfl (ocV cl c) 8 x) * (31 : Int64)) + ((0 : Int32).toInt64))), (6, .int (Int32.ofNat 8))]) (st' := [.int (Int32.ofNat c), .long (((dfl (ocV cl c) 8 x) * (31 : Int64)) + ((0 : Int32).toInt64)), .ref 0]) (s' := s) rfl ?_
      refine yp_vi rfl rfl rfl rfl (c_digF hD hn hF hc ?_)
      refine yp_run 1 (pc' := 85) (lv' := [(0, .ref 0), (1, .long x), (3, .int (Int32.ofNat c)), (4, .long (((dfl (ocV cl c) 8 x) * (31 : Int64)) + ((0 : Int32).toInt64))), (6, .int (Int32.ofNat 8))]) (st' := [.long (dgC n D cl m c x)]) (s' := s) rfl ?_
      refine yp_rl rfl rfl ?_
      exact kk
theorem lz_da {n D J : Nat} {P : Int32} {cl jc m : Nat → Int32} {x : Int64} (hD : D ≤ 5) (hn : n ≤ 7) (hF : finF s n D J P cl jc m) (kk : Yp sd 50 31 [(0, .ref 0), (1, .long (dfl (mnV n D J P m) 11 x)), (3, .int (Int32.ofNat 11))] [] s Φ) : ∀ k i : Nat, i + k = 11 → Yp sd 50 6 [(0, .ref 0), (1, .long (dfl (mnV n D J P m) i x)), (3, .int (Int32.ofNat i))] [] s Φ := by
  intro k
  induction k with
  | zero =>
    intro i hi
    refine yp_run 2 (pc' := 9) (lv' := [(0, .ref 0), (1, .long (dfl (mnV n D J P m) i x)), (3, .int (Int32.ofNat i))]) (st' := [.int 10, .int (Int32.ofNat i)]) (s' := s) rfl ?_
    refine yp_icmp rfl rfl (fun h => ?_) (fun h => ?_)
    · rw [show i = 11 by omega]
      exact kk
    · have h := xN (xc_gt _ _) h
      rw [show (10 : Int32).toInt = 10 from rfl, i32_to (by omega)] at h
      omega
  | succ k ih =>
    intro i hi
    refine yp_run 2 (pc' := 9) (lv' := [(0, .ref 0), (1, .long (dfl (mnV n D J P m) i x)), (3, .int (Int32.ofNat i))]) (st' := [.int 10, .int (Int32.ofNat i)]) (s' := s) rfl ?_
    refine yp_icmp rfl rfl (fun h => ?_) (fun h => ?_)
    · have h := xT (xc_gt _ _) h
      rw [show (10 : Int32).toInt = 10 from rfl, i32_to (by omega)] at h
      omega
    · refine yp_run 5 (pc' := 19) (lv' := [(0, .ref 0), (1, .long (dfl (mnV n D J P m) i x)), (3, .int (Int32.ofNat i))]) (st' := [.int (Int32.ofNat i), .ref 0, .long ((dfl (mnV n D J P m) i x) * (31 : Int64))]) (s' := s) rfl ?_
      refine yp_vi rfl rfl rfl rfl (c_many (by omega) hD hn hF ?_)
      refine yp_run 5 (pc' := 6) (lv' := [(0, .ref 0), (1, .long (((dfl (mnV n D J P m) i x) * (31 : Int64)) + (((mnV n D J P m i) : Int32).toInt64))), (3, .int ((Int32.ofNat i) + 1))]) (st' := []) (s' := s) rfl ?_
      rw [i32_s]
      refine yp_sel [0, 1, 3] ?_
      exact ih (i + 1) (by omega)
def dgCs (n D : Nat) (cl m : Nat → Int32) : Nat → Int64 → Int64
  | 0, x => x
  | c + 1, x => dgC n D cl m c (dgCs n D cl m c x)
def dgJs (D : Nat) (P : Int32) (jc m : Nat → Int32) : Nat → Int64 → Int64
  | 0, x => x
  | j + 1, x => dfl (ojV D P jc m j) 4 (dgJs D P jc m j x)
theorem lz_db {n D J : Nat} {P : Int32} {cl jc m : Nat → Int32} {x : Int64} (hD : D ≤ 5) (hn : n ≤ 7) (hF : finF s n D J P cl jc m) (kk : Yp sd 50 57 [(0, .ref 0), (1, .long (dgCs n D cl m n x)), (3, .int (Int32.ofNat n))] [] s Φ) : ∀ k i : Nat, i + k = n → Yp sd 50 33 [(0, .ref 0), (1, .long (dgCs n D cl m i x)), (3, .int (Int32.ofNat i))] [] s Φ := by
  intro k
  induction k with
  | zero =>
    intro i hi
    refine yp_run 4 (pc' := 41) (lv' := [(0, .ref 0), (1, .long (dgCs n D cl m i x)), (3, .int (Int32.ofNat i))]) (st' := [.int (s 1 0), .int (Int32.ofNat i)]) (s' := s) rfl ?_
    refine yp_icmp rfl rfl (fun h => ?_) (fun h => ?_)
    · rw [show i = n by omega]
      exact kk
    · have h := xN (xc_ge _ _) h
      rw [hF.1.2.2.1, i32_to (by omega), i32_to (by omega)] at h
      omega
  | succ k ih =>
    intro i hi
    refine yp_run 4 (pc' := 41) (lv' := [(0, .ref 0), (1, .long (dgCs n D cl m i x)), (3, .int (Int32.ofNat i))]) (st' := [.int (s 1 0), .int (Int32.ofNat i)]) (s' := s) rfl ?_
    refine yp_icmp rfl rfl (fun h => ?_) (fun h => ?_)
    · have h := xT (xc_ge _ _) h
      rw [hF.1.2.2.1, i32_to (by omega), i32_to (by omega)] at h
      omega
    · refine yp_run 3 (pc' := 47) (lv' := [(0, .ref 0), (1, .long (dgCs n D cl m i x)), (3, .int (Int32.ofNat i))]) (st' := [.int (Int32.ofNat i), .long (dgCs n D cl m i x), .ref 0]) (s' := s) rfl ?_
      refine yp_vi rfl rfl rfl rfl (c_digC hD hn hF (by omega) ?_)
      refine yp_run 3 (pc' := 33) (lv' := [(0, .ref 0), (1, .long (dgC n D cl m i (dgCs n D cl m i x))), (3, .int ((Int32.ofNat i) + 1))]) (st' := []) (s' := s) rfl ?_
      rw [i32_s]
      refine yp_sel [0, 1, 3] ?_
      exact ih (i + 1) (by omega)
theorem lz_dc {n D J : Nat} {P : Int32} {cl jc m : Nat → Int32} {j : Nat} {x : Int64} (hD : D ≤ 5) (hn : n ≤ 7) (hF : finF s n D J P cl jc m) (hJ : J ≤ 7) (hj : j < J) (kk : Yp sd 50 100 [(0, .ref 0), (1, .long (dfl (ojV D P jc m j) 4 x)), (3, .int (Int32.ofNat j)), (4, .int (Int32.ofNat 4))] [] s Φ) : ∀ k i : Nat, i + k = 4 → Yp sd 50 73 [(0, .ref 0), (1, .long (dfl (ojV D P jc m j) i x)), (3, .int (Int32.ofNat j)), (4, .int (Int32.ofNat i))] [] s Φ := by
  intro k
  induction k with
  | zero =>
    intro i hi
    refine yp_run 2 (pc' := 76) (lv' := [(0, .ref 0), (1, .long (dfl (ojV D P jc m j) i x)), (3, .int (Int32.ofNat j)), (4, .int (Int32.ofNat i))]) (st' := [.int 3, .int (Int32.ofNat i)]) (s' := s) rfl ?_
    refine yp_icmp rfl rfl (fun h => ?_) (fun h => ?_)
    · rw [show i = 4 by omega]
      exact kk
    · have h := xN (xc_gt _ _) h
      rw [show (3 : Int32).toInt = 3 from rfl, i32_to (by omega)] at h
      omega
  | succ k ih =>
    intro i hi
    refine yp_run 2 (pc' := 76) (lv' := [(0, .ref 0), (1, .long (dfl (ojV D P jc m j) i x)), (3, .int (Int32.ofNat j)), (4, .int (Int32.ofNat i))]) (st' := [.int 3, .int (Int32.ofNat i)]) (s' := s) rfl ?_
    refine yp_icmp rfl rfl (fun h => ?_) (fun h => ?_)
    · have h := xT (xc_gt _ _) h
      rw [show (3 : Int32).toInt = 3 from rfl, i32_to (by omega)] at h
      omega
    · refine yp_run 6 (pc' := 88) (lv' := [(0, .ref 0), (1, .long (dfl (ojV D P jc m j) i x)), (3, .int (Int32.ofNat j)), (4, .int (Int32.ofNat i))]) (st' := [.int (Int32.ofNat i), .int (Int32.ofNat j), .ref 0, .long ((dfl (ojV D P jc m j) i x) * (31 : Int64))]) (s' := s) rfl ?_
      refine yp_vi rfl rfl rfl rfl (c_ofJu (by omega) hD hn hF hJ hj ?_)
      refine yp_run 5 (pc' := 73) (lv' := [(0, .ref 0), (1, .long (((dfl (ojV D P jc m j) i x) * (31 : Int64)) + (((ojV D P jc m j i) : Int32).toInt64))), (3, .int (Int32.ofNat j)), (4, .int ((Int32.ofNat i) + 1))]) (st' := []) (s' := s) rfl ?_
      rw [i32_s]
      refine yp_sel [0, 1, 3, 4] ?_
      exact ih (i + 1) (by omega)
theorem lz_dd {n D J : Nat} {P : Int32} {cl jc m : Nat → Int32} {x : Int64} (hD : D ≤ 5) (hn : n ≤ 7) (hF : finF s n D J P cl jc m) (hJ : J ≤ 7) (kk : Yp sd 50 106 [(0, .ref 0), (1, .long (dgJs D P jc m J x)), (3, .int (Int32.ofNat J))] [] s Φ) : ∀ k i : Nat, i + k = J → Yp sd 50 59 [(0, .ref 0), (1, .long (dgJs D P jc m i x)), (3, .int (Int32.ofNat i))] [] s Φ := by
  intro k
  induction k with
  | zero =>
    intro i hi
    refine yp_run 4 (pc' := 67) (lv' := [(0, .ref 0), (1, .long (dgJs D P jc m i x)), (3, .int (Int32.ofNat i))]) (st' := [.int (s 10 0), .int (Int32.ofNat i)]) (s' := s) rfl ?_
    refine yp_icmp rfl rfl (fun h => ?_) (fun h => ?_)
    · rw [show i = J by omega]
      exact kk
    · have h := xN (xc_ge _ _) h
      rw [hF.1.2.2.2.2.2.2.2.1, i32_to (by omega), i32_to (by omega)] at h
      omega
  | succ k ih =>
    intro i hi
    refine yp_run 4 (pc' := 67) (lv' := [(0, .ref 0), (1, .long (dgJs D P jc m i x)), (3, .int (Int32.ofNat i))]) (st' := [.int (s 10 0), .int (Int32.ofNat i)]) (s' := s) rfl ?_
    refine yp_icmp rfl rfl (fun h => ?_) (fun h => ?_)
    · have h := xT (xc_ge _ _) h
      rw [hF.1.2.2.2.2.2.2.2.1, i32_to (by omega), i32_to (by omega)] at h
      omega
    · refine yp_run 2 (pc' := 73) (lv' := [(0, .ref 0), (1, .long (dgJs D P jc m i x)), (3, .int (Int32.ofNat i)), (4, .int 0)]) (st' := []) (s' := s) rfl ?_
      refine lz_dc (x := dgJs D P jc m i x) hD hn hF hJ (by omega) ?_ 4 0 rfl
      refine yp_run 2 (pc' := 59) (lv' := [(0, .ref 0), (1, .long (dgJs D P jc m (i + 1) x)), (3, .int ((Int32.ofNat i) + 1)), (4, .int (Int32.ofNat 4))]) (st' := []) (s' := s) rfl ?_
      rw [i32_s]
      refine yp_sel [0, 1, 3] ?_
      exact ih (i + 1) (by omega)
def dgX (n D J : Nat) (P : Int32) (cl jc m : Nat → Int32) : Int64 := dgJs D P jc m J (dgCs n D cl m n (dfl (mnV n D J P m) 11 9107))
def dig9 (n D J : Nat) (P : Int32) (cl jc m : Nat → Int32) : Int64 := dst (dgX n D J P cl jc m) (frg n D P m)
theorem c_dige {n D J : Nat} {P : Int32} {cl jc m : Nat → Int32} (hD : D ≤ 5) (hn : n ≤ 7) (hF : finF s n D J P cl jc m) (hJ : J ≤ 7) (kk : ∀ U : yS, finF U n D J P cl jc m → Φ (some (.long (dig9 n D J P cl jc m))) U) : Yq sd 50 [.ref 0] s Φ := by
  refine Yq.of rfl (Nat.le_of_ble_eq_true rfl) ?_
  refine yp_run 4 (pc' := 6) (lv' := [(0, .ref 0), (1, .long (9107 : Int64)), (3, .int 0)]) (st' := []) (s' := s) rfl ?_
  refine lz_da (x := 9107) hD hn hF ?_ 11 0 rfl
  refine yp_run 2 (pc' := 33) (lv' := [(0, .ref 0), (1, .long (dfl (mnV n D J P m) 11 9107)), (3, .int 0)]) (st' := []) (s' := s) rfl ?_
  refine lz_db (x := (dfl (mnV n D J P m) 11 9107)) hD hn hF ?_ n 0 (Nat.zero_add n)
  refine yp_run 2 (pc' := 59) (lv' := [(0, .ref 0), (1, .long (dgCs n D cl m n (dfl (mnV n D J P m) 11 9107))), (3, .int 0)]) (st' := []) (s' := s) rfl ?_
  refine lz_dd (x := (dgCs n D cl m n (dfl (mnV n D J P m) 11 9107))) hD hn hF hJ ?_ J 0 (Nat.zero_add J)
  refine yp_run 4 (pc' := 112) (lv' := [(0, .ref 0), (1, .long (dgX n D J P cl jc m)), (3, .int (Int32.ofNat J))]) (st' := [.ref 0, .long ((dgX n D J P cl jc m) * (31 : Int64))]) (s' := s) rfl ?_
  refine yp_vi rfl rfl rfl rfl (c_frag hD hn hF (fun U hU => ?_))
  refine yp_run 2 (pc' := 117) (lv' := [(0, .ref 0), (1, .long (dgX n D J P cl jc m)), (3, .int (Int32.ofNat J))]) (st' := [.long (((dgX n D J P cl jc m) * (31 : Int64)) + (((frg n D P m) : Int32).toInt64))]) (s' := U) rfl ?_
  refine yp_rl rfl rfl ?_
  exact kk U hU
end YAE
