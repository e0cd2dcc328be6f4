/-! small methods on numbers -/
section YI
variable {sd : Option (List Int32)} {μ pc : Nat} {lv : xL} {st : List Value} {s : yS} {Φ : Option Value → yS → Prop}
abbrev hds (a b : Int32) : Prop := yin b 10 ∧ (a >>> (b &&& 31)) &&& 1 = 1
def hd (a b : Int32) : Int32 := if hds a b then 1 else 0
theorem hd_t {a b : Int32} (h : hds a b) : hd a b = 1 := by
  unfold hd
  rw [if_pos h]
theorem hd_f {a b : Int32} (h : ¬ hds a b) : hd a b = 0 := by
  unfold hd
  rw [if_neg h]
theorem hd_01 (a b : Int32) : hd a b = 0 ∨ hd a b = 1 := by
  by_cases h : hds a b
  · exact Or.inr (hd_t h)
  · exact Or.inl (hd_f h)
theorem hd_eqT {a b : Int32} (h : xcmp .eq (hd a b) 0 = true) : ¬ hds a b := fun q => by
  rw [hd_t q] at h
  cases h
theorem hd_eqF {a b : Int32} (h : xcmp .eq (hd a b) 0 = false) : hds a b := by
  by_cases q : hds a b
  · exact q
  · rw [hd_f q] at h
    cases h
theorem hd_neT {a b : Int32} (h : xcmp .ne (hd a b) 0 = true) : hds a b := by
  by_cases q : hds a b
  · exact q
  · rw [hd_f q] at h
    cases h
theorem hd_neF {a b : Int32} (h : xcmp .ne (hd a b) 0 = false) : ¬ hds a b := fun q => by
  rw [hd_t q] at h
  cases h
theorem c_hold {a b : Int32} (kk : Φ (some (.int (hd a b))) s) : Yq sd 12 [.int a, .int b] s Φ := by
  refine Yq.of rfl (Nat.le_of_ble_eq_true rfl) ?_
  refine yp_run 1 (pc' := 1) (lv' := [(0, .int a), (1, .int b)]) (st' := [.int b]) (s' := s) rfl ?_
  refine yp_if rfl rfl (fun h1 => ?_) (fun h1 => ?_)
  · have h1 := xT (xc_lt _ _) h1
    rw [Int32.toInt_zero] at h1
    refine yp_run 1 (pc' := 24) (lv' := [(0, .int a), (1, .int b)]) (st' := [.int 0]) (s' := s) rfl ?_
    refine yp_rz rfl rfl (Or.inl rfl) ?_
    rw [hd_f (fun q => by have := q.1; unfold yin at this; omega)] at kk
    exact kk
  · have h1 := xN (xc_lt _ _) h1
    rw [Int32.toInt_zero] at h1
    refine yp_run 2 (pc' := 7) (lv' := [(0, .int a), (1, .int b)]) (st' := [.int 10, .int b]) (s' := s) rfl ?_
    refine yp_icmp rfl rfl (fun h2 => ?_) (fun h2 => ?_)
    · have h2 := xT (xc_ge _ _) h2
      rw [show (10 : Int32).toInt = 10 from rfl] at h2
      refine yp_run 1 (pc' := 24) (lv' := [(0, .int a), (1, .int b)]) (st' := [.int 0]) (s' := s) rfl ?_
      refine yp_rz rfl rfl (Or.inl rfl) ?_
      rw [hd_f (fun q => by have := q.1; unfold yin at this; omega)] at kk
      exact kk
    · have h2 := xN (xc_ge _ _) h2
      rw [show (10 : Int32).toInt = 10 from rfl] at h2
      refine yp_run 6 (pc' := 16) (lv' := [(0, .int a), (1, .int b)]) (st' := [.int 1, .int ((a >>> (b &&& 31)) &&& 1)]) (s' := s) rfl ?_
      refine yp_icmp rfl rfl (fun h3 => ?_) (fun h3 => ?_)
      · rw [xc_ne, Bool.not_eq_true', decide_eq_false_iff_not] at h3
        refine yp_run 1 (pc' := 24) (lv' := [(0, .int a), (1, .int b)]) (st' := [.int 0]) (s' := s) rfl ?_
        refine yp_rz rfl rfl (Or.inl rfl) ?_
        rw [hd_f (fun q => h3 q.2)] at kk
        exact kk
      · rw [xc_ne, Bool.not_eq_false', decide_eq_true_eq] at h3
        refine yp_run 2 (pc' := 24) (lv' := [(0, .int a), (1, .int b)]) (st' := [.int 1]) (s' := s) rfl ?_
        refine yp_rz rfl rfl (Or.inr rfl) ?_
        rw [hd_t ⟨by unfold yin; omega, h3⟩] at kk
        exact kk
def bcS (v : Int32) (k : Int32) : Int32 := (v.toUInt32 >>> (k.toUInt32 &&& Int32.toUInt32 31)).toInt32
def bc1 (v : Int32) : Int32 := v - (bcS v 1 &&& 1431655765)
def bc2 (v : Int32) : Int32 := (bc1 v &&& 858993459) + (bcS (bc1 v) 2 &&& 858993459)
def bc3 (v : Int32) : Int32 := (bc2 v + bcS (bc2 v) 4) &&& 252645135
def bc4 (v : Int32) : Int32 := bc3 v + bcS (bc3 v) 8
def bc5 (v : Int32) : Int32 := bc4 v + bcS (bc4 v) 16
def bc6 (v : Int32) : Int32 := bc5 v &&& 63
theorem c_bits {v : Int32} (kk : Φ (some (.int (bc6 v))) s) : Yq sd 34 [.int v] s Φ := by
  refine Yq.of rfl (Nat.le_of_ble_eq_true rfl) ?_
  refine yp_run 8 (pc' := 10) (lv' := [(0, .int (bc1 v))]) (st' := []) (s' := s) rfl ?_
  refine yp_run 10 (pc' := 24) (lv' := [(0, .int (bc2 v))]) (st' := []) (s' := s) rfl ?_
  refine yp_run 8 (pc' := 34) (lv' := [(0, .int (bc3 v))]) (st' := []) (s' := s) rfl ?_
  refine yp_run 6 (pc' := 41) (lv' := [(0, .int (bc4 v))]) (st' := []) (s' := s) rfl ?_
  refine yp_run 6 (pc' := 48) (lv' := [(0, .int (bc5 v))]) (st' := []) (s' := s) rfl ?_
  refine yp_run 3 (pc' := 52) (lv' := [(0, .int (bc5 v))]) (st' := [.int (bc6 v)]) (s' := s) rfl ?_
  exact yp_ri rfl rfl kk
theorem c_rowOf {d p : Int32} (kk : Φ (some (.int (d * 8 + p))) s) : Yq sd 15 [.int d, .int p] s Φ := by
  refine Yq.of rfl (Nat.le_of_ble_eq_true rfl) ?_
  refine yp_run 5 (pc' := 6) (lv' := [(0, .int d), (1, .int p)]) (st' := [.int (d * 8 + p)]) (s' := s) rfl ?_
  exact yp_ri rfl rfl kk
theorem c_inH {f k : Int32} (kk : Φ (some (.int (2 * f + k - 1))) s) : Yq sd 27 [.int f, .int k] s Φ := by
  refine Yq.of rfl (Nat.le_of_ble_eq_true rfl) ?_
  refine yp_run 7 (pc' := 7) (lv' := [(0, .int f), (1, .int k)]) (st' := [.int (2 * f + k - 1)]) (s' := s) rfl ?_
  exact yp_ri rfl rfl kk
-- the tally of a score: its place is 41 or 63
abbrev yt (t : Nat) : Prop := t = 41 ∨ t = 63
theorem c_num {t : Nat} {r p : Int32} (ht : yt t) (kk : Φ (some (.int (gget s (t + 1) r p))) s) : Yq sd 23 [.ref t, .int r, .int p] s Φ := by
  refine Yq.of rfl (Nat.le_of_ble_eq_true rfl) ?_
  rcases ht with rfl | rfl
  · refine yp_run 4 (pc' := 6) (lv' := [(0, .ref 41), (1, .int r), (2, .int p)]) (st' := [.int p, .int r, .ref 42]) (s' := s) rfl ?_
    refine yp_vi rfl rfl rfl rfl (c_gget rfl ?_)
    exact yp_ri rfl rfl kk
  · refine yp_run 4 (pc' := 6) (lv' := [(0, .ref 63), (1, .int r), (2, .int p)]) (st' := [.int p, .int r, .ref 64]) (s' := s) rfl ?_
    refine yp_vi rfl rfl rfl rfl (c_gget rfl ?_)
    exact yp_ri rfl rfl kk
theorem c_wgt {t : Nat} {r p : Int32} (ht : yt t) (kk : Φ (some (.int (gget s (t + 3) r p))) s) : Yq sd 29 [.ref t, .int r, .int p] s Φ := by
  refine Yq.of rfl (Nat.le_of_ble_eq_true rfl) ?_
  rcases ht with rfl | rfl
  · refine yp_run 4 (pc' := 6) (lv' := [(0, .ref 41), (1, .int r), (2, .int p)]) (st' := [.int p, .int r, .ref 44]) (s' := s) rfl ?_
    refine yp_vi rfl rfl rfl rfl (c_gget rfl ?_)
    exact yp_ri rfl rfl kk
  · refine yp_run 4 (pc' := 6) (lv' := [(0, .ref 63), (1, .int r), (2, .int p)]) (st' := [.int p, .int r, .ref 66]) (s' := s) rfl ?_
    refine yp_vi rfl rfl rfl rfl (c_gget rfl ?_)
    exact yp_ri rfl rfl kk
theorem c_count {t : Nat} {r m : Int32} (ht : yt t) (kk : Φ none (gset s (t + 1) r m (gget s (t + 1) r m + 1))) : Yq sd 16 [.ref t, .int r, .int m] s Φ := by
  refine Yq.of rfl (Nat.le_of_ble_eq_true rfl) ?_
  rcases ht with rfl | rfl
  · refine yp_run 5 (pc' := 7) (lv' := [(0, .ref 41), (1, .int r), (2, .int m)]) (st' := [.int 1, .int m, .int r, .ref 42]) (s' := s) rfl ?_
    refine yp_vi rfl rfl rfl rfl (c_gadd rfl ?_)
    exact yp_rv rfl rfl kk
  · refine yp_run 5 (pc' := 7) (lv' := [(0, .ref 63), (1, .int r), (2, .int m)]) (st' := [.int 1, .int m, .int r, .ref 64]) (s' := s) rfl ?_
    refine yp_vi rfl rfl rfl rfl (c_gadd rfl ?_)
    exact yp_rv rfl rfl kk
theorem c_tclear {t : Nat} {w : Int32} (ht : yt t) (kk : Φ none (rfill (yup s t 0 w) (t + 1) 360 0)) : Yq sd 9 [.ref t, .int w] s Φ := by
  refine Yq.of rfl (Nat.le_of_ble_eq_true rfl) ?_
  rcases ht with rfl | rfl
  · refine yp_run 6 (pc' := 10) (lv' := [(0, .ref 41), (1, .int w)]) (st' := [.int 0, .ref 42]) (s' := yup s 41 0 w) rfl ?_
    refine yp_vi rfl rfl rfl rfl (c_gfill rfl ?_)
    exact yp_rv rfl rfl kk
  · refine yp_run 6 (pc' := 10) (lv' := [(0, .ref 63), (1, .int w)]) (st' := [.int 0, .ref 64]) (s' := yup s 63 0 w) rfl ?_
    refine yp_vi rfl rfl rfl rfl (c_gfill rfl ?_)
    exact yp_rv rfl rfl kk
-- the sheets
theorem c_mark {j d p : Int32} (kk : Φ (some (.int (gget s 26 (j * 5 + d) p))) s) : Yq sd 3 [.ref 25, .int j, .int d, .int p] s Φ := by
  refine Yq.of rfl (Nat.le_of_ble_eq_true rfl) ?_
  refine yp_run 8 (pc' := 10) (lv' := [(0, .ref 25), (1, .int j), (2, .int d), (3, .int p)]) (st' := [.int p, .int (j * 5 + d), .ref 26]) (s' := s) rfl ?_
  refine yp_vi rfl rfl rfl rfl (c_gget rfl ?_)
  exact yp_ri rfl rfl kk
abbrev hass (s : yS) (j d : Int32) : Prop := yin j 7 ∧ yin d 5 ∧ gget s 26 (j * 5 + d) 0 ≠ 0
def has (s : yS) (j d : Int32) : Int32 := if hass s j d then 1 else 0
theorem has_t {s : yS} {a b : Int32} (h : hass s a b) : has s a b = 1 := by
  unfold has
  rw [if_pos h]
theorem has_f {s : yS} {a b : Int32} (h : ¬ hass s a b) : has s a b = 0 := by
  unfold has
  rw [if_neg h]
theorem has_eqT {s : yS} {a b : Int32} (h : xcmp .eq (has s a b) 0 = true) : ¬ hass s a b := fun q => by
  rw [has_t q] at h
  cases h
theorem has_eqF {s : yS} {a b : Int32} (h : xcmp .eq (has s a b) 0 = false) : hass s a b := by
  by_cases q : hass s a b
  · exact q
  · rw [has_f q] at h
    cases h
theorem has_neT {s : yS} {a b : Int32} (h : xcmp .ne (has s a b) 0 = true) : hass s a b := by
  by_cases q : hass s a b
  · exact q
  · rw [has_f q] at h
    cases h
theorem has_neF {s : yS} {a b : Int32} (h : xcmp .ne (has s a b) 0 = false) : ¬ hass s a b := fun q => by
  rw [has_t q] at h
  cases h
theorem l_has0 {j d : Int32} (hf : ¬ hass s j d) (kk : Φ (some (.int (has s j d))) s) : Yp sd 2 33 [(0, .ref 25), (1, .int j), (2, .int d)] [] s Φ := by
  refine yp_run 1 (pc' := 34) (lv' := [(0, .ref 25), (1, .int j), (2, .int d)]) (st' := [.int 0]) (s' := s) rfl ?_
  refine yp_rz rfl rfl (Or.inl rfl) ?_
  rw [has_f hf] at kk
  exact kk
theorem c_has {j d : Int32} (kk : Φ (some (.int (has s j d))) s) : Yq sd 2 [.ref 25, .int j, .int d] s Φ := by
  refine Yq.of rfl (Nat.le_of_ble_eq_true rfl) ?_
  refine yp_run 1 (pc' := 1) (lv' := [(0, .ref 25), (1, .int j), (2, .int d)]) (st' := [.int j]) (s' := s) rfl ?_
  refine yp_if rfl rfl (fun h1 => ?_) (fun h1 => ?_)
  · have h1 := xT (xc_lt _ _) h1
    rw [Int32.toInt_zero] at h1
    exact l_has0 (fun q => by have := q.1; unfold yin at this; omega) kk
  · have h1 := xN (xc_lt _ _) h1
    rw [Int32.toInt_zero] at h1
    refine yp_run 2 (pc' := 7) (lv' := [(0, .ref 25), (1, .int j), (2, .int d)]) (st' := [.int 7, .int j]) (s' := s) rfl ?_
    refine yp_icmp rfl rfl (fun h2 => ?_) (fun h2 => ?_)
    · have h2 := xT (xc_ge _ _) h2
      rw [show (7 : Int32).toInt = 7 from rfl] at h2
      exact l_has0 (fun q => by have := q.1; unfold yin at this; omega) kk
    · have h2 := xN (xc_ge _ _) h2
      rw [show (7 : Int32).toInt = 7 from rfl] at h2
      refine yp_run 1 (pc' := 11) (lv' := [(0, .ref 25), (1, .int j), (2, .int d)]) (st' := [.int d]) (s' := s) rfl ?_
      refine yp_if rfl rfl (fun h3 => ?_) (fun h3 => ?_)
      · have h3 := xT (xc_lt _ _) h3
        rw [Int32.toInt_zero] at h3
        exact l_has0 (fun q => by have := q.2.1; unfold yin at this; omega) kk
      · have h3 := xN (xc_lt _ _) h3
        rw [Int32.toInt_zero] at h3
        refine yp_run 2 (pc' := 16) (lv' := [(0, .ref 25), (1, .int j), (2, .int d)]) (st' := [.int 5, .int d]) (s' := s) rfl ?_
        refine yp_icmp rfl rfl (fun h4 => ?_) (fun h4 => ?_)
        · have h4 := xT (xc_ge _ _) h4
          rw [show (5 : Int32).toInt = 5 from rfl] at h4
          exact l_has0 (fun q => by have := q.2.1; unfold yin at this; omega) kk
        · have h4 := xN (xc_ge _ _) h4
          rw [show (5 : Int32).toInt = 5 from rfl] at h4
          refine yp_run 4 (pc' := 23) (lv' := [(0, .ref 25), (1, .int j), (2, .int d)]) (st' := [.int 0, .int d, .int j, .ref 25]) (s' := s) rfl ?_
          refine yp_vi rfl rfl rfl rfl (c_mark ?_)
          refine yp_if rfl rfl (fun h5 => ?_) (fun h5 => ?_)
          · rw [xc_eq, decide_eq_true_eq] at h5
            exact l_has0 (fun q => q.2.2 h5) kk
          · rw [xc_eq, decide_eq_false_iff_not] at h5
            refine yp_run 2 (pc' := 34) (lv' := [(0, .ref 25), (1, .int j), (2, .int d)]) (st' := [.int 1]) (s' := s) rfl ?_
            refine yp_rz rfl rfl (Or.inr rfl) ?_
            rw [has_t ⟨by unfold yin; omega, by unfold yin; omega, h5⟩] at kk
            exact kk
theorem c_isPen {p d : Int32} (kk : Φ (some (.int (hd (rget s 28 d) p))) s) : Yq sd 20 [.ref 25, .int p, .int d] s Φ := by
  refine Yq.of rfl (Nat.le_of_ble_eq_true rfl) ?_
  refine yp_run 3 (pc' := 5) (lv' := [(0, .ref 25), (1, .int p), (2, .int d)]) (st' := [.int d, .ref 28]) (s' := s) rfl ?_
  refine yp_vi rfl rfl rfl rfl (c_rget rfl ?_)
  refine yp_run 1 (pc' := 9) (lv' := [(0, .ref 25), (1, .int p), (2, .int d)]) (st' := [.int p, .int (rget s 28 d)]) (s' := s) rfl ?_
  refine yp_sn rfl rfl rfl (c_hold ?_)
  exact yp_rz rfl rfl (hd_01 _ _) kk
end YI
