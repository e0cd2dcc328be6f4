/-! people told, an event opened, a final begun -/
section YAF
variable {sd : Option (List Int32)} {μ pc : Nat} {lv : xL} {st : List Value} {s : yS} {Φ : Option Value → yS → Prop}
/-- a new hall -/
def sg0 : yS := fun k j => if k = 22 ∧ j < 10 then -1 else 0
def inA (s : yS) (n J : Nat) (cl jc : Nat → Int32) : Prop := s 1 0 = Int32.ofNat n ∧ s 3 = cl ∧ s 10 0 = Int32.ofNat J ∧ s 12 = jc ∧ (∀ k, k ≠ 1 → k ≠ 3 → k ≠ 10 → k ≠ 12 → s k = sg0 k)
theorem inA_0 : inA sg0 0 0 (fun _ => 0) (fun _ => 0) := ⟨rfl, rfl, rfl, rfl, fun _ _ _ _ _ => rfl⟩
def fup (f : Nat → Int32) (i : Nat) (v : Int32) : Nat → Int32 := fun k => if k = i then v else f k
theorem yup_fup (s : yS) (k i : Nat) (v : Int32) : yup s k i v k = fup (s k) i v := by
  funext j
  unfold yup fup
  by_cases h : j = i
  · rw [if_pos ⟨rfl, h⟩, if_pos h]
  · rw [if_neg (fun q => h q.2), if_neg h]
theorem inA_c {s : yS} {n J : Nat} {cl jc : Nat → Int32} {v : Int32} (h : inA s n J cl jc) : inA (yup (yup s 3 n v) 1 0 (Int32.ofNat (n + 1))) (n + 1) J (fup cl n v) jc := by
  obtain ⟨a, b, c, d, e⟩ := h
  refine ⟨yup_at, ?_, ?_, ?_, fun k h1 h2 h3 h4 => ?_⟩
  · rw [yup_ne (by decide), yup_fup, b]
  · rw [yup_ne (by decide), yup_ne (by decide)]; exact c
  · rw [yup_ne (by decide), yup_ne (by decide)]; exact d
  · rw [yup_ne h1, yup_ne h2]; exact e k h1 h2 h3 h4
theorem inA_j {s : yS} {n J : Nat} {cl jc : Nat → Int32} {v : Int32} (h : inA s n J cl jc) : inA (yup (yup s 12 J v) 10 0 (Int32.ofNat (J + 1))) n (J + 1) cl (fup jc J v) := by
  obtain ⟨a, b, c, d, e⟩ := h
  refine ⟨?_, ?_, yup_at, ?_, fun k h1 h2 h3 h4 => ?_⟩
  · rw [yup_ne (by decide), yup_ne (by decide)]; exact a
  · rw [yup_ne (by decide), yup_ne (by decide)]; exact b
  · rw [yup_ne (by decide), yup_fup, d]
  · rw [yup_ne h3, yup_ne h4]; exact e k h1 h2 h3 h4
theorem c_nClu {b : Nat} (hb : b < 6) (kk : Φ none s) : Yq sd 93 [.int (Int32.ofNat b)] s Φ := by
  refine Yq.of rfl (Nat.le_of_ble_eq_true rfl) ?_
  refine yp_run 1 (pc' := 1) (lv' := [(0, .int (Int32.ofNat b))]) (st' := [.int (Int32.ofNat b)]) (s' := s) rfl ?_
  refine yp_if rfl rfl (fun h1 => ?_) (fun h1 => ?_)
  · have h1 := xT (xc_lt _ _) h1; rw [i32_to (by omega), Int32.toInt_zero] at h1; omega
  · refine yp_run 2 (pc' := 7) (lv' := [(0, .int (Int32.ofNat b))]) (st' := [.int 6, .int (Int32.ofNat b)]) (s' := s) rfl ?_
    refine yp_icmp rfl rfl (fun h7 => ?_) (fun h7 => ?_)
    · refine yp_rv rfl rfl ?_
      exact kk
    · have h7 := xN (xc_lt _ _) h7; rw [i32_to (by omega), show (6 : Int32).toInt = 6 from rfl] at h7; omega
theorem c_enrC {c : Nat} {v : Int32} (hc : c < 10) (h1 : s 1 0 = Int32.ofNat c) (kk : Φ (some (.int (Int32.ofNat c))) (yup (yup s 3 c v) 1 0 (Int32.ofNat (c + 1)))) : Yq sd 94 [.ref 1, .int v] s Φ := by
  refine Yq.of rfl (Nat.le_of_ble_eq_true rfl) ?_
  refine yp_run 5 (pc' := 9) (lv' := [(0, .ref 1), (1, .int v)]) (st' := [.int v, .int (s 1 0), .ref 2]) (s' := s) rfl ?_
  refine yp_vi rfl rfl rfl rfl (c_rset rfl ?_)
  refine yp_run 10 (pc' := 28) (lv' := [(0, .ref 1), (1, .int v)]) (st' := [.int ((((rset s 2 (s 1 0) v) 1 0) + 1) - 1)]) (s' := (yup (rset s 2 (s 1 0) v) 1 0 (((rset s 2 (s 1 0) v) 1 0) + 1))) rfl ?_
  rw [h1, rset_i (k := 2) (by show c < 10; omega), yup_ne (by decide), h1, i32_s]
  refine yp_ri rfl rfl ?_
  rw [show Int32.ofNat (c + 1) - 1 = Int32.ofNat c by rw [← i32_s]; simp]
  exact kk
theorem c_enrJ {c : Nat} {v : Int32} (hc : c < 7) (h1 : s 10 0 = Int32.ofNat c) (kk : Φ (some (.int (Int32.ofNat c))) (yup (yup s 12 c v) 10 0 (Int32.ofNat (c + 1)))) : Yq sd 97 [.ref 10, .int v] s Φ := by
  refine Yq.of rfl (Nat.le_of_ble_eq_true rfl) ?_
  refine yp_run 5 (pc' := 9) (lv' := [(0, .ref 10), (1, .int v)]) (st' := [.int v, .int (s 10 0), .ref 11]) (s' := s) rfl ?_
  refine yp_vi rfl rfl rfl rfl (c_rset rfl ?_)
  refine yp_run 10 (pc' := 28) (lv' := [(0, .ref 10), (1, .int v)]) (st' := [.int ((((rset s 11 (s 10 0) v) 10 0) + 1) - 1)]) (s' := (yup (rset s 11 (s 10 0) v) 10 0 (((rset s 11 (s 10 0) v) 10 0) + 1))) rfl ?_
  rw [h1, rset_i (k := 11) (by show c < 7; omega), yup_ne (by decide), h1, i32_s]
  refine yp_ri rfl rfl ?_
  rw [show Int32.ofNat (c + 1) - 1 = Int32.ofNat c by rw [← i32_s]; simp]
  exact kk
theorem c_coup {c J b : Nat} {cl jc : Nat → Int32} (hb : b < 6) (hc : c < 10) (hA : inA s c J cl jc) (kk : Φ (some (.int (Int32.ofNat c))) (yup (yup s 3 c (Int32.ofNat b)) 1 0 (Int32.ofNat (c + 1)))) : Yq sd 92 [.ref 0, .int (Int32.ofNat b)] s Φ := by
  refine Yq.of rfl (Nat.le_of_ble_eq_true rfl) ?_
  refine yp_run 1 (pc' := 1) (lv' := [(0, .ref 0), (1, .int (Int32.ofNat b))]) (st' := [.int (Int32.ofNat b)]) (s' := s) rfl ?_
  refine yp_st rfl rfl (c_nClu hb ?_)
  refine yp_run 4 (pc' := 13) (lv' := [(0, .ref 0), (1, .int (Int32.ofNat b))]) (st' := [.int 10, .int (s 1 0)]) (s' := s) rfl ?_
  refine yp_icmp rfl rfl (fun h13 => ?_) (fun h13 => ?_)
  · refine yp_run 3 (pc' := 31) (lv' := [(0, .ref 0), (1, .int (Int32.ofNat b))]) (st' := [.int (Int32.ofNat b), .ref 1]) (s' := s) rfl ?_
    refine yp_vi rfl rfl rfl rfl (c_enrC hc hA.1 ?_)
    exact yp_ri rfl rfl kk
  · have h13 := xN (xc_lt _ _) h13; rw [hA.1, i32_to (by omega), show (10 : Int32).toInt = 10 from rfl] at h13; omega
theorem c_judg {n c b : Nat} {cl jc : Nat → Int32} (hb : b < 6) (hc : c < 7) (hA : inA s n c cl jc) (kk : Φ (some (.int (Int32.ofNat c))) (yup (yup s 12 c (Int32.ofNat b)) 10 0 (Int32.ofNat (c + 1)))) : Yq sd 96 [.ref 0, .int (Int32.ofNat b)] s Φ := by
  refine Yq.of rfl (Nat.le_of_ble_eq_true rfl) ?_
  have h15 : s 15 0 = 0 := congrFun (hA.2.2.2.2 15 (by decide) (by decide) (by decide) (by decide)) 0
  refine yp_run 1 (pc' := 1) (lv' := [(0, .ref 0), (1, .int (Int32.ofNat b))]) (st' := [.int (Int32.ofNat b)]) (s' := s) rfl ?_
  refine yp_st rfl rfl (c_nClu hb ?_)
  refine yp_run 4 (pc' := 13) (lv' := [(0, .ref 0), (1, .int (Int32.ofNat b))]) (st' := [.int 7, .int (s 10 0)]) (s' := s) rfl ?_
  refine yp_icmp rfl rfl (fun h13 => ?_) (fun h13 => ?_)
  · have h13 := xT (xc_ge _ _) h13; rw [hA.2.2.1, i32_to (by omega), show (7 : Int32).toInt = 7 from rfl] at h13; omega
  · refine yp_run 3 (pc' := 23) (lv' := [(0, .ref 0), (1, .int (Int32.ofNat b))]) (st' := [.int (s 15 0)]) (s' := s) rfl ?_
    refine yp_if rfl rfl (fun h23 => ?_) (fun h23 => ?_)
    · refine yp_run 3 (pc' := 41) (lv' := [(0, .ref 0), (1, .int (Int32.ofNat b))]) (st' := [.int (Int32.ofNat b), .ref 10]) (s' := s) rfl ?_
      refine yp_vi rfl rfl rfl rfl (c_enrJ hc hA.2.2.1 ?_)
      exact yp_ri rfl rfl kk
    · rw [h15] at h23; cases h23
theorem all_andn : ∀ n, n < 9 → all (Int32.ofNat n) &&& (all (Int32.ofNat n) ^^^ -1) = 0 := by decide +kernel
theorem c_have {n : Nat} (hn : n < 9) (h1 : s 1 0 = Int32.ofNat n) (kk : Φ (some (.int 1)) s) : Yq sd 101 [.ref 1, .int (all (Int32.ofNat n))] s Φ := by
  refine Yq.of rfl (Nat.le_of_ble_eq_true rfl) ?_
  refine yp_run 10 (pc' := 12) (lv' := [(0, .ref 1), (1, .int (all (Int32.ofNat n)))]) (st' := [.int ((all (Int32.ofNat n)) &&& (((1 <<< ((s 1 0) &&& 31)) - 1) ^^^ (-1)))]) (s' := s) rfl ?_
  refine yp_if rfl rfl (fun h12 => ?_) (fun h12 => ?_)
  · rw [h1] at h12; exact absurd (all_andn n hn) (by rw [xc_ne, Bool.not_eq_true', decide_eq_false_iff_not] at h12; exact h12)
  · refine yp_run 2 (pc' := 20) (lv' := [(0, .ref 1), (1, .int (all (Int32.ofNat n)))]) (st' := [.int 1]) (s' := s) rfl ?_
    refine yp_rz rfl rfl (Or.inr rfl) ?_
    exact kk
def css (x : Int32) (cl : Nat → Int32) (i : Nat) (a : Int32) : Int32 := (bif xcmp .eq (hd x (Int32.ofNat i)) 0 then a else (a ||| (1 <<< ((cl i) &&& 31))))
theorem css_eq (x : Int32) (cl : Nat → Int32) (i : Nat) (a : Int32) : css x cl i a = (bif xcmp .eq (hd x (Int32.ofNat i)) 0 then a else (a ||| (1 <<< ((cl i) &&& 31)))) := rfl
theorem lz_cs {n : Nat} {x : Int32} {cl : Nat → Int32} {a0 : Int32} (hn : n ≤ 8) (h1 : s 1 0 = Int32.ofNat n) (h3 : s 3 = cl) (kk : Yp sd 102 39 [(0, .ref 1), (1, .int x), (2, .int (itf (css x cl) n a0)), (3, .int (Int32.ofNat n))] [] s Φ) : ∀ m i : Nat, i + m = n → Yp sd 102 4 [(0, .ref 1), (1, .int x), (2, .int (itf (css x cl) i a0)), (3, .int (Int32.ofNat i))] [] s Φ := by
  intro m
  induction m with
  | zero =>
    intro i hi
    refine yp_run 3 (pc' := 9) (lv' := [(0, .ref 1), (1, .int x), (2, .int (itf (css x cl) i a0)), (3, .int (Int32.ofNat i))]) (st' := [.int (s 1 0), .int (Int32.ofNat i)]) (s' := s) rfl ?_
    refine yp_icmp rfl rfl (fun h => ?_) (fun h => ?_)
    · rw [show i = n by omega]
      exact kk
    · have h := xN (xc_ge _ _) h
      rw [h1, i32_to (by omega), i32_to (by omega)] at h
      omega
  | succ m ih =>
    intro i hi
    refine yp_run 3 (pc' := 9) (lv' := [(0, .ref 1), (1, .int x), (2, .int (itf (css x cl) i a0)), (3, .int (Int32.ofNat i))]) (st' := [.int (s 1 0), .int (Int32.ofNat i)]) (s' := s) rfl ?_
    refine yp_icmp rfl rfl (fun h => ?_) (fun h => ?_)
    · have h := xT (xc_ge _ _) h
      rw [h1, i32_to (by omega), i32_to (by omega)] at h
      omega
    · refine yp_run 2 (pc' := 14) (lv' := [(0, .ref 1), (1, .int x), (2, .int (itf (css x cl) i a0)), (3, .int (Int32.ofNat i))]) (st' := [.int (Int32.ofNat i), .int x]) (s' := s) rfl ?_
      refine yp_sn rfl rfl rfl (c_hold ?_)
      refine yp_if rfl rfl (fun h17 => ?_) (fun h17 => ?_)
      · refine yp_run 2 (pc' := 4) (lv' := [(0, .ref 1), (1, .int x), (2, .int (itf (css x cl) i a0)), (3, .int ((Int32.ofNat i) + 1))]) (st' := []) (s' := s) rfl ?_
        have e9 : (itf (css x cl) (i + 1) a0) = (itf (css x cl) i a0) := by
          refine (css_eq x cl i (itf (css x cl) i a0)).trans ?_
          simp only [h17, cond_true, cond_false]
        have e8 := ih (i + 1) (by omega)
        rw [e9] at e8
        rw [i32_s]
        refine yp_sel [0, 1, 2, 3] ?_
        exact e8
      · refine yp_run 5 (pc' := 27) (lv' := [(0, .ref 1), (1, .int x), (2, .int (itf (css x cl) i a0)), (3, .int (Int32.ofNat i))]) (st' := [.int (Int32.ofNat i), .ref 2, .int 1, .int (itf (css x cl) i a0)]) (s' := s) rfl ?_
        have gc : rget s 2 (Int32.ofNat i) = cl i := (rget_i (by show i < 10; omega)).trans (congrFun h3 i)
        refine yp_vi rfl rfl rfl rfl (c_rgetv rfl gc ?_)
        refine yp_run 5 (pc' := 4) (lv' := [(0, .ref 1), (1, .int x), (2, .int ((itf (css x cl) i a0) ||| (1 <<< ((cl i) &&& 31)))), (3, .int ((Int32.ofNat i) + 1))]) (st' := []) (s' := s) rfl ?_
        have e9 : (itf (css x cl) (i + 1) a0) = ((itf (css x cl) i a0) ||| (1 <<< ((cl i) &&& 31))) := by
          refine (css_eq x cl i (itf (css x cl) i a0)).trans ?_
          simp only [h17, cond_true, cond_false]
        have e8 := ih (i + 1) (by omega)
        rw [e9] at e8
        rw [i32_s]
        refine yp_sel [0, 1, 2, 3] ?_
        exact e8
def clb (x : Int32) (cl : Nat → Int32) (n : Nat) : Int32 := itf (css x cl) n 0
theorem c_clus {n : Nat} {x : Int32} {cl : Nat → Int32} (hn : n ≤ 8) (h1 : s 1 0 = Int32.ofNat n) (h3 : s 3 = cl) (kk : Φ (some (.int (clb x cl n))) s) : Yq sd 102 [.ref 1, .int x] s Φ := by
  refine Yq.of rfl (Nat.le_of_ble_eq_true rfl) ?_
  refine yp_run 4 (pc' := 4) (lv' := [(0, .ref 1), (1, .int x), (2, .int 0), (3, .int 0)]) (st' := []) (s' := s) rfl ?_
  refine lz_cs (a0 := 0)  hn h1 h3 ?_ n 0 (Nat.zero_add _)
  refine yp_run 1 (pc' := 40) (lv' := [(0, .ref 1), (1, .int x), (2, .int (itf (css x cl) n 0)), (3, .int (Int32.ofNat n))]) (st' := [.int (itf (css x cl) n 0)]) (s' := s) rfl ?_
  refine yp_ri rfl rfl ?_
  exact kk
def pns (x : Int32) (jc : Nat → Int32) (i : Nat) (a : Int32 × Int32) : Int32 × Int32 := (bif xcmp .ne (hd x (jc i)) 0 then (a.1, a.2) else ((a.1 ||| (1 <<< ((Int32.ofNat i) &&& 31))), (1 <<< ((Int32.ofNat i) &&& 31))))
theorem pns_eq (x : Int32) (jc : Nat → Int32) (i : Nat) (a : Int32 × Int32) : pns x jc i a = (bif xcmp .ne (hd x (jc i)) 0 then (a.1, a.2) else ((a.1 ||| (1 <<< ((Int32.ofNat i) &&& 31))), (1 <<< ((Int32.ofNat i) &&& 31)))) := rfl
theorem lz_pn {n : Nat} {x : Int32} {jc : Nat → Int32} {a0 : Int32 × Int32} (hn : n ≤ 7) (h1 : s 10 0 = Int32.ofNat n) (h3 : s 12 = jc) (kk : Yp sd 103 47 [(0, .ref 10), (1, .int x), (2, .int ((itf (pns x jc) n a0).1)), (3, .int ((itf (pns x jc) n a0).2)), (4, .int (Int32.ofNat n))] [] s Φ) : ∀ m i : Nat, i + m = n → Yp sd 103 7 [(0, .ref 10), (1, .int x), (2, .int ((itf (pns x jc) i a0).1)), (3, .int ((itf (pns x jc) i a0).2)), (4, .int (Int32.ofNat i))] [] s Φ := by
  intro m
  induction m with
  | zero =>
    intro i hi
    refine yp_run 3 (pc' := 13) (lv' := [(0, .ref 10), (1, .int x), (2, .int ((itf (pns x jc) i a0).1)), (3, .int ((itf (pns x jc) i a0).2)), (4, .int (Int32.ofNat i))]) (st' := [.int (s 10 0), .int (Int32.ofNat i)]) (s' := s) rfl ?_
    refine yp_icmp rfl rfl (fun h => ?_) (fun h => ?_)
    · rw [show i = n by omega]
      exact kk
    · have h := xN (xc_ge _ _) h
      rw [h1, i32_to (by omega), i32_to (by omega)] at h
      omega
  | succ m ih =>
    intro i hi
    refine yp_run 3 (pc' := 13) (lv' := [(0, .ref 10), (1, .int x), (2, .int ((itf (pns x jc) i a0).1)), (3, .int ((itf (pns x jc) i a0).2)), (4, .int (Int32.ofNat i))]) (st' := [.int (s 10 0), .int (Int32.ofNat i)]) (s' := s) rfl ?_
    refine yp_icmp rfl rfl (fun h => ?_) (fun h => ?_)
    · have h := xT (xc_ge _ _) h
      rw [h1, i32_to (by omega), i32_to (by omega)] at h
      omega
    · refine yp_run 4 (pc' := 23) (lv' := [(0, .ref 10), (1, .int x), (2, .int ((itf (pns x jc) i a0).1)), (3, .int ((itf (pns x jc) i a0).2)), (4, .int (Int32.ofNat i))]) (st' := [.int (Int32.ofNat i), .ref 11, .int x]) (s' := s) rfl ?_
      have gc : rget s 11 (Int32.ofNat i) = jc i := (rget_i (by show i < 7; omega)).trans (congrFun h3 i)
      refine yp_vi rfl rfl rfl rfl (c_rgetv rfl gc ?_)
      refine yp_sn rfl rfl rfl (c_hold ?_)
      refine yp_if rfl rfl (fun h29 => ?_) (fun h29 => ?_)
      · refine yp_run 2 (pc' := 7) (lv' := [(0, .ref 10), (1, .int x), (2, .int ((itf (pns x jc) i a0).1)), (3, .int ((itf (pns x jc) i a0).2)), (4, .int ((Int32.ofNat i) + 1))]) (st' := []) (s' := s) rfl ?_
        have e9 : (itf (pns x jc) (i + 1) a0) = (((itf (pns x jc) i a0).1), ((itf (pns x jc) i a0).2)) := by
          refine (pns_eq x jc i (itf (pns x jc) i a0)).trans ?_
          simp only [h29, cond_true, cond_false]
        have e8 := ih (i + 1) (by omega)
        rw [e9] at e8
        rw [i32_s]
        refine yp_sel [0, 1, 2, 3, 4] ?_
        exact e8
      · refine yp_run 10 (pc' := 7) (lv' := [(0, .ref 10), (1, .int x), (2, .int (((itf (pns x jc) i a0).1) ||| (1 <<< ((Int32.ofNat i) &&& 31)))), (3, .int (1 <<< ((Int32.ofNat i) &&& 31))), (4, .int ((Int32.ofNat i) + 1))]) (st' := []) (s' := s) rfl ?_
        have e9 : (itf (pns x jc) (i + 1) a0) = ((((itf (pns x jc) i a0).1) ||| (1 <<< ((Int32.ofNat i) &&& 31))), (1 <<< ((Int32.ofNat i) &&& 31))) := by
          refine (pns_eq x jc i (itf (pns x jc) i a0)).trans ?_
          simp only [h29, cond_true, cond_false]
        have e8 := ih (i + 1) (by omega)
        rw [e9] at e8
        rw [i32_s]
        refine yp_sel [0, 1, 2, 3, 4] ?_
        exact e8
/-- the panel out of the judges, beside clubs x -/
def pnB (x : Int32) (jc : Nat → Int32) (J : Nat) : Int32 × Int32 := itf (pns x jc) J (0, 0)
def pnP (A : Int32 × Int32) : Int32 := bif xcmp .ne (bc6 A.1 - bc6 A.1 / 2 * 2) 0 then A.1 else A.1 &&& (A.2 ^^^ -1)
theorem c_pane {n : Nat} {x : Int32} {jc : Nat → Int32} (hn : n ≤ 7) (h1 : s 10 0 = Int32.ofNat n) (h3 : s 12 = jc) (kk : Φ (some (.int (pnP (pnB x jc n)))) s) : Yq sd 103 [.ref 10, .int x] s Φ := by
  refine Yq.of rfl (Nat.le_of_ble_eq_true rfl) ?_
  refine yp_run 6 (pc' := 7) (lv' := [(0, .ref 10), (1, .int x), (2, .int 0), (3, .int 0), (4, .int 0)]) (st' := []) (s' := s) rfl ?_
  refine lz_pn (a0 := (0, 0))  hn h1 h3 ?_ n 0 (Nat.zero_add _)
  refine yp_run 1 (pc' := 48) (lv' := [(0, .ref 10), (1, .int x), (2, .int ((itf (pns x jc) n (0, 0)).1)), (3, .int ((itf (pns x jc) n (0, 0)).2)), (4, .int (Int32.ofNat n))]) (st' := [.int ((itf (pns x jc) n (0, 0)).1)]) (s' := s) rfl ?_
  refine yp_st rfl rfl (c_bits ?_)
  refine yp_run 2 (pc' := 53) (lv' := [(0, .ref 10), (1, .int x), (2, .int ((itf (pns x jc) n (0, 0)).1)), (3, .int ((itf (pns x jc) n (0, 0)).2)), (4, .int (Int32.ofNat n))]) (st' := [.int ((bc6 ((itf (pns x jc) n (0, 0)).1)) - (bc6 ((itf (pns x jc) n (0, 0)).1)) / 2 * 2)]) (s' := s) rfl ?_
  refine yp_if rfl rfl (fun h53 => ?_) (fun h53 => ?_)
  · refine yp_run 1 (pc' := 65) (lv' := [(0, .ref 10), (1, .int x), (2, .int ((itf (pns x jc) n (0, 0)).1)), (3, .int ((itf (pns x jc) n (0, 0)).2)), (4, .int (Int32.ofNat n))]) (st' := [.int ((itf (pns x jc) n (0, 0)).1)]) (s' := s) rfl ?_
    refine yp_ri rfl rfl ?_
    have e9 : pnP (pnB x jc n) = ((itf (pns x jc) n (0, 0)).1) := by
      unfold pnP pnB
      rw [h53]
      rfl
    rw [e9] at kk
    exact kk
  · refine yp_run 6 (pc' := 65) (lv' := [(0, .ref 10), (1, .int x), (2, .int ((itf (pns x jc) n (0, 0)).1)), (3, .int ((itf (pns x jc) n (0, 0)).2)), (4, .int (Int32.ofNat n))]) (st' := [.int (((itf (pns x jc) n (0, 0)).1) &&& (((itf (pns x jc) n (0, 0)).2) ^^^ (-1)))]) (s' := s) rfl ?_
    refine yp_ri rfl rfl ?_
    have e9 : pnP (pnB x jc n) = (((itf (pns x jc) n (0, 0)).1) &&& (((itf (pns x jc) n (0, 0)).2) ^^^ (-1))) := by
      unfold pnP pnB
      rw [h53]
      rfl
    rw [e9] at kk
    exact kk
def evS (s : yS) (x p d : Int32) : yS := rfill (yup (yup (yup (yup (yup (yup s 15 0 1) 15 1 x) 15 2 x) 15 3 p) 15 4 d) 15 5 0) 16 10 0
theorem c_evst {x p d : Int32}  (kk : Φ none (evS s x p d)) : Yq sd 104 [.ref 15, .int x, .int p, .int d] s Φ := by
  refine Yq.of rfl (Nat.le_of_ble_eq_true rfl) ?_
  refine yp_run 21 (pc' := 35) (lv' := [(0, .ref 15), (1, .int x), (2, .int p), (3, .int d)]) (st' := [.int 0, .ref 16]) (s' := (yup (yup (yup (yup (yup (yup s 15 0 1) 15 1 x) 15 2 x) 15 3 p) 15 4 d) 15 5 0)) rfl ?_
  refine yp_vi rfl rfl rfl rfl (c_rfill rfl ?_)
  exact yp_rv rfl rfl kk
theorem c_open {n J D : Nat} {cl jc : Nat → Int32} (hn3 : 3 ≤ n) (hn : n ≤ 7) (hJ : J ≤ 7) (hD1 : 1 ≤ D) (hD : D ≤ 5) (hA : inA s n J cl jc) (hP : 3 ≤ (bc6 (pnP (pnB (clb (all (Int32.ofNat n)) cl n) jc J))).toInt) (kk : Φ (some (.int (bc6 (pnP (pnB (clb (all (Int32.ofNat n)) cl n) jc J))))) (evS s (all (Int32.ofNat n)) (pnP (pnB (clb (all (Int32.ofNat n)) cl n) jc J)) (Int32.ofNat D))) : Yq sd 100 [.ref 0, .int (all (Int32.ofNat n)), .int (Int32.ofNat D)] s Φ := by
  refine Yq.of rfl (Nat.le_of_ble_eq_true rfl) ?_
  have h15 : s 15 0 = 0 := congrFun (hA.2.2.2.2 15 (by decide) (by decide) (by decide) (by decide)) 0
  refine yp_run 3 (pc' := 5) (lv' := [(0, .ref 0), (1, .int (all (Int32.ofNat n))), (2, .int (Int32.ofNat D))]) (st' := [.int (all (Int32.ofNat n)), .ref 1]) (s' := s) rfl ?_
  refine yp_vi rfl rfl rfl rfl (c_have (by omega) hA.1 ?_)
  refine yp_if rfl rfl (fun h8 => ?_) (fun h8 => ?_)
  · cases h8
  · refine yp_run 1 (pc' := 12) (lv' := [(0, .ref 0), (1, .int (all (Int32.ofNat n))), (2, .int (Int32.ofNat D))]) (st' := [.int (all (Int32.ofNat n))]) (s' := s) rfl ?_
    skip
    refine yp_st rfl rfl (c_bits ?_)
    refine yp_run 1 (pc' := 16) (lv' := [(0, .ref 0), (1, .int (all (Int32.ofNat n))), (2, .int (Int32.ofNat D))]) (st' := [.int 3, .int (bc6 (all (Int32.ofNat n)))]) (s' := s) rfl ?_
    refine yp_icmp rfl rfl (fun h16 => ?_) (fun h16 => ?_)
    · refine yp_run 2 (pc' := 31) (lv' := [(0, .ref 0), (1, .int (all (Int32.ofNat n))), (2, .int (Int32.ofNat D))]) (st' := [.int 1, .int (Int32.ofNat D)]) (s' := s) rfl ?_
      refine yp_icmp rfl rfl (fun h31 => ?_) (fun h31 => ?_)
      · have h31 := xT (xc_lt _ _) h31; rw [i32_to (by omega), show (1 : Int32).toInt = 1 from rfl] at h31; omega
      · refine yp_run 2 (pc' := 36) (lv' := [(0, .ref 0), (1, .int (all (Int32.ofNat n))), (2, .int (Int32.ofNat D))]) (st' := [.int 5, .int (Int32.ofNat D)]) (s' := s) rfl ?_
        refine yp_icmp rfl rfl (fun h36 => ?_) (fun h36 => ?_)
        · refine yp_run 5 (pc' := 58) (lv' := [(0, .ref 0), (1, .int (all (Int32.ofNat n))), (2, .int (Int32.ofNat D))]) (st' := [.int (all (Int32.ofNat n)), .ref 1, .ref 10]) (s' := s) rfl ?_
          refine yp_vi rfl rfl rfl rfl (c_clus (by omega) hA.1 hA.2.1 ?_)
          refine yp_vi rfl rfl rfl rfl (c_pane hJ hA.2.2.1 hA.2.2.2.1 ?_)
          refine yp_run 4 (pc' := 72) (lv' := [(0, .ref 0), (1, .int (all (Int32.ofNat n))), (2, .int (Int32.ofNat D)), (3, .int (pnP (pnB (clb (all (Int32.ofNat n)) cl n) jc J)))]) (st' := [.int (s 15 0)]) (s' := s) rfl ?_
          refine yp_if rfl rfl (fun h72 => ?_) (fun h72 => ?_)
          · rw [h15] at h72; cases h72
          · refine yp_run 1 (pc' := 76) (lv' := [(0, .ref 0), (1, .int (all (Int32.ofNat n))), (2, .int (Int32.ofNat D)), (3, .int (pnP (pnB (clb (all (Int32.ofNat n)) cl n) jc J)))]) (st' := [.int (pnP (pnB (clb (all (Int32.ofNat n)) cl n) jc J))]) (s' := s) rfl ?_
            skip
            refine yp_st rfl rfl (c_bits ?_)
            refine yp_run 1 (pc' := 80) (lv' := [(0, .ref 0), (1, .int (all (Int32.ofNat n))), (2, .int (Int32.ofNat D)), (3, .int (pnP (pnB (clb (all (Int32.ofNat n)) cl n) jc J)))]) (st' := [.int 3, .int (bc6 (pnP (pnB (clb (all (Int32.ofNat n)) cl n) jc J)))]) (s' := s) rfl ?_
            refine yp_icmp rfl rfl (fun h80 => ?_) (fun h80 => ?_)
            · refine yp_run 5 (pc' := 100) (lv' := [(0, .ref 0), (1, .int (all (Int32.ofNat n))), (2, .int (Int32.ofNat D)), (3, .int (pnP (pnB (clb (all (Int32.ofNat n)) cl n) jc J)))]) (st' := [.int (Int32.ofNat D), .int (pnP (pnB (clb (all (Int32.ofNat n)) cl n) jc J)), .int (all (Int32.ofNat n)), .ref 15]) (s' := s) rfl ?_
              refine yp_vi rfl rfl rfl rfl (c_evst ?_)
              refine yp_run 1 (pc' := 104) (lv' := [(0, .ref 0), (1, .int (all (Int32.ofNat n))), (2, .int (Int32.ofNat D)), (3, .int (pnP (pnB (clb (all (Int32.ofNat n)) cl n) jc J)))]) (st' := [.int (pnP (pnB (clb (all (Int32.ofNat n)) cl n) jc J))]) (s' := (evS s (all (Int32.ofNat n)) (pnP (pnB (clb (all (Int32.ofNat n)) cl n) jc J)) (Int32.ofNat D))) rfl ?_
              skip
              refine yp_st rfl rfl (c_bits ?_)
              exact yp_ri rfl rfl kk
            · have h80 := xN (xc_ge _ _) h80; rw [show (3 : Int32).toInt = 3 from rfl] at h80; omega
        · have h36 := xN (xc_le _ _) h36; rw [i32_to (by omega), show (5 : Int32).toInt = 5 from rfl] at h36; omega
    · have h16 := xN (xc_ge _ _) h16; rw [bit_cnt n (by omega), i32_to (by omega), show (3 : Int32).toInt = 3 from rfl] at h16; omega
def clS (s : yS) (n d : Int32) : yS := rfill (rfill (yup (yup s 25 0 n) 25 1 d) 26 280 0) 28 5 0
theorem c_clea {n d : Int32}  (kk : Φ none (clS s n d)) : Yq sd 108 [.ref 25, .int n, .int d] s Φ := by
  refine Yq.of rfl (Nat.le_of_ble_eq_true rfl) ?_
  refine yp_run 9 (pc' := 15) (lv' := [(0, .ref 25), (1, .int n), (2, .int d)]) (st' := [.int 0, .ref 26]) (s' := (yup (yup s 25 0 n) 25 1 d)) rfl ?_
  refine yp_vi rfl rfl rfl rfl (c_gfill rfl ?_)
  refine yp_run 3 (pc' := 23) (lv' := [(0, .ref 25), (1, .int n), (2, .int d)]) (st' := [.int 0, .ref 28]) (s' := (rfill (yup (yup s 25 0 n) 25 1 d) 26 280 0)) rfl ?_
  refine yp_vi rfl rfl rfl rfl (c_rfill rfl ?_)
  exact yp_rv rfl rfl kk
theorem c_begi {n D : Nat} (hn : n ≤ 7) (hD : D ≤ 5) (hs : ∀ k, k ≠ 1 → k ≠ 3 → k ≠ 10 → k ≠ 12 → k ≠ 15 → k ≠ 17 → s k = sg0 k) (h10 : s 15 0 = 1) (h12 : s 15 2 = all (Int32.ofNat n)) (h14 : s 15 4 = Int32.ofNat D) (kk : ∀ T : yS, (∀ k, k < 30 → k ≠ 0 → k ≠ 25 → k ≠ 27 → k ≠ 29 → T k = s k) → (∀ k, 52 ≤ k → T k = s k) → T 0 7 = 1 → T 0 8 = s 0 8 → T 25 0 = Int32.ofNat n → T 25 1 = Int32.ofNat D → (T 27 = fun _ => 0) → (∀ j, j < 5 → T 29 j = 0) → stl T 30 n D (ef 0 (fun _ => 0)) → Φ (some (.int (Int32.ofNat n))) T) : Yq sd 107 [.ref 0] s Φ := by
  refine Yq.of rfl (Nat.le_of_ble_eq_true rfl) ?_
  have h07 : s 0 7 = 0 := congrFun (hs 0 (by decide) (by decide) (by decide) (by decide) (by decide) (by decide)) 7
  have hr18 : s 18 0 = 0 := congrFun (hs 18 (by decide) (by decide) (by decide) (by decide) (by decide) (by decide)) 0
  refine yp_run 3 (pc' := 7) (lv' := [(0, .ref 0)]) (st' := [.int (s 15 2)]) (s' := s) rfl ?_
  rw [h12]
  refine yp_st rfl rfl (c_bits ?_)
  rw [bit_cnt n (by omega)]
  refine yp_run 4 (pc' := 18) (lv' := [(0, .ref 0), (1, .int (Int32.ofNat n))]) (st' := [.int (s 15 0)]) (s' := s) rfl ?_
  refine yp_if rfl rfl (fun h18 => ?_) (fun h18 => ?_)
  · rw [h10] at h18; cases h18
  · refine yp_run 2 (pc' := 25) (lv' := [(0, .ref 0), (1, .int (Int32.ofNat n))]) (st' := [.int (s 0 7)]) (s' := s) rfl ?_
    refine yp_if rfl rfl (fun h25 => ?_) (fun h25 => ?_)
    · rw [h07] at h25; cases h25
    · refine yp_run 3 (pc' := 35) (lv' := [(0, .ref 0), (1, .int (Int32.ofNat n))]) (st' := [.int (s 18 0)]) (s' := s) rfl ?_
      refine yp_if rfl rfl (fun h35 => ?_) (fun h35 => ?_)
      · rw [hr18] at h35; cases h35
      · refine yp_run 2 (pc' := 41) (lv' := [(0, .ref 0), (1, .int (Int32.ofNat n))]) (st' := [.int 8, .int (Int32.ofNat n)]) (s' := s) rfl ?_
        refine yp_icmp rfl rfl (fun h41 => ?_) (fun h41 => ?_)
        · refine yp_run 9 (pc' := 71) (lv' := [(0, .ref 0), (1, .int (Int32.ofNat n))]) (st' := [.int (s 15 4), .int (Int32.ofNat n), .ref 25]) (s' := (yup s 0 7 1)) rfl ?_
          refine yp_vi rfl rfl rfl rfl (c_clea ?_)
          obtain ⟨X, hX⟩ : ∃ X, X = clS (yup s 0 7 1) (Int32.ofNat n) (s 15 4) := ⟨_, rfl⟩
          show ybk sd 107 74 _ [] Φ none (clS (yup s 0 7 1) (Int32.ofNat n) (s 15 4))
          rw [← hX]
          have x25 : X 25 0 = Int32.ofNat n := by rw [hX]; rfl
          have x26 : X 25 1 = Int32.ofNat D := by rw [hX]; exact h14
          have x27 : X 27 = fun _ => 0 := by
            rw [hX]
            funext j
            unfold clS rfill yup
            rw [hs 27 (by decide) (by decide) (by decide) (by decide) (by decide) (by decide)]
            unfold sg0
            repeat' split
            all_goals first | rfl | (exfalso; omega)
          have x29 : ∀ j, j < 5 → X 29 j = 0 := fun j hj => by rw [hX]; exact if_pos ⟨rfl, hj⟩
          have xf : ∀ k, k ≠ 0 → k ≠ 25 → k ≠ 27 → k ≠ 29 → X k = s k := fun k a b c d => by
            rw [hX]
            funext j
            exact (if_neg (fun q => d q.1)).trans ((if_neg (fun q => c q.1)).trans ((if_neg (fun q => b q.1)).trans ((if_neg (fun q => b q.1)).trans (if_neg (fun q => a q.1)))))
          have x0 : X 0 7 = 1 := by rw [hX]; rfl
          have x08 : X 0 8 = s 0 8 := by rw [hX]; rfl
          refine yp_run 5 (pc' := 83) (lv' := [(0, .ref 0), (1, .int (Int32.ofNat n))]) (st' := [.int 0, .ref 25, .ref 30]) (s' := X) rfl ?_
          refine yp_vi rfl rfl rfl rfl (c_settle (S := 30) (E := ef 0 (fun _ => 0)) (by decide) hn hD x25 x26 x29 (fun R h1 => (congrFun ((xf 45 (by decide) (by decide) (by decide) (by decide)).trans (hs 45 (by decide) (by decide) (by decide) (by decide) (by decide) (by decide))) _).trans rfl) (fun a b c h1 h2 h3 => by unfold ef; rw [x27]) (fun T fT hT => ?_))
          refine yp_run 1 (pc' := 87) (lv' := [(0, .ref 0), (1, .int (Int32.ofNat n))]) (st' := [.int (Int32.ofNat n)]) (s' := T) rfl ?_
          refine yp_ri rfl rfl (kk T (fun k h1 h2 h3 h4 h5 => (fT k (by omega)).trans (xf k h2 h3 h4 h5)) (fun k h1 => (fT k (by omega)).trans (xf k (by omega) (by omega) (by omega) (by omega))) ?_ ?_ ?_ ?_ ?_ ?_ hT)
          · exact (congrFun (fT 0 (by decide)) 7).trans x0
          · exact (congrFun (fT 0 (by decide)) 8).trans x08
          · exact (congrFun (fT 25 (by decide)) 0).trans x25
          · exact (congrFun (fT 25 (by decide)) 1).trans x26
          · exact (fT 27 (by decide)).trans x27
          · intro j hj
            exact (congrFun (fT 29 (by decide)) j).trans (x29 j hj)
        · have h41 := xN (xc_le _ _) h41; rw [i32_to (by omega), show (8 : Int32).toInt = 8 from rfl] at h41; omega
end YAF
