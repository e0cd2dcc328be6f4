/-! places are taken -/
section YO
variable {sd : Option (List Int32)} {μ pc : Nat} {lv : xL} {st : List Value} {s : yS} {Φ : Option Value → yS → Prop}
def tkf (s : yS) (k : Nat) (g v : Int32) (p : Nat) : Int32 := bif xcmp .eq (hd g (Int32.ofNat p)) 0 then s k p else v
def tkSt (s : yS) (S : Nat) (g v w : Int32) (i : Nat) : yS := wr (wr s (S + 8) 0 i (tkf s (S + 8) g v)) (S + 10) 0 i (tkf s (S + 10) g w)
theorem tkSt_0 (s : yS) (S : Nat) (g v w : Int32) : tkSt s S g v w 0 = s := by
  unfold tkSt
  rw [wr_0, wr_0]
theorem wr_same {s : yS} {k lo i : Nat} {f : Nat → Int32} (h : lo ≤ i) (hv : f i = s k i) : wr s k lo (i + 1) f = wr s k lo i f := by
  funext a b
  unfold wr
  by_cases h1 : a = k ∧ lo ≤ b ∧ b < i
  · rw [if_pos h1, if_pos ⟨h1.1, h1.2.1, by omega⟩]
  · rw [if_neg h1]
    by_cases h2 : a = k ∧ b = i
    · rw [if_pos ⟨h2.1, by omega, by omega⟩, h2.1, h2.2, hv]
    · rw [if_neg (fun q => by
        by_cases e : b = i
        · exact h2 ⟨q.1, e⟩
        · exact h1 ⟨q.1, q.2.1, by omega⟩)]
theorem tkSt_T {s : yS} {S i : Nat} {g v w : Int32} (h : xcmp .eq (hd g (Int32.ofNat i)) 0 = true) : tkSt s S g v w i = tkSt s S g v w (i + 1) := by
  unfold tkSt
  rw [wr_same (s := s) (Nat.zero_le i) (by unfold tkf; rw [h]; rfl), wr_same (Nat.zero_le i) (by unfold tkf; rw [h, wr_ne (by omega)]; rfl)]
theorem tkSt_N {s : yS} {S i : Nat} {g v w : Int32} (h : xcmp .eq (hd g (Int32.ofNat i)) 0 = false) : yup (yup (tkSt s S g v w i) (S + 8) i v) (S + 10) i w = tkSt s S g v w (i + 1) := by
  unfold tkSt
  rw [yup_wr (by omega), wr_s (Nat.zero_le i) (by unfold tkf; rw [h]; rfl), wr_s (Nat.zero_le i) (by unfold tkf; rw [h]; rfl)]
theorem tkSt_ne {s : yS} {S i k : Nat} {g v w : Int32} (h1 : k ≠ S + 8) (h2 : k ≠ S + 10) : tkSt s S g v w i k = s k := by
  unfold tkSt
  rw [wr_ne h2, wr_ne h1]
theorem lz_tk {S : Nat} {n : Nat} {g v w f : Int32} (hS : yss S) (hn : n ≤ 8) (hz : s S 0 = Int32.ofNat n) (kk : Yp sd 37 58 [(0, .ref S), (1, .int g), (2, .int f), (3, .int w), (4, .int v), (5, .int (Int32.ofNat n))] [] (tkSt s S g v w n) Φ) : ∀ m i : Nat, i + m = n → Yp sd 37 13 [(0, .ref S), (1, .int g), (2, .int f), (3, .int w), (4, .int v), (5, .int (Int32.ofNat i))] [] (tkSt s S g v w i) Φ := by
  intro m
  rcases hS with rfl | rfl
  · have hz : s 30 0 = Int32.ofNat n := hz
    induction m with
    | zero =>
      intro i hi
      obtain ⟨T, hT⟩ : ∃ T, T = (tkSt s 30 g v w i) := ⟨_, rfl⟩
      rw [← hT]
      have hzT : T 30 0 = Int32.ofNat n := by rw [hT]; exact (congrFun (tkSt_ne (by decide) (by decide)) 0).trans hz
      refine yp_run 3 (pc' := 19) (lv' := [(0, .ref 30), (1, .int g), (2, .int f), (3, .int w), (4, .int v), (5, .int (Int32.ofNat i))]) (st' := [.int (T 30 0), .int (Int32.ofNat i)]) (s' := T) rfl ?_
      refine yp_icmp rfl rfl (fun h => ?_) (fun h => ?_)
      · rw [hT, show i = n by omega]
        exact kk
      · have h := xN (xc_ge _ _) h
        rw [hzT, i32_to (by omega), i32_to (by omega)] at h
        omega
    | succ m ih =>
      intro i hi
      obtain ⟨T, hT⟩ : ∃ T, T = (tkSt s 30 g v w i) := ⟨_, rfl⟩
      rw [← hT]
      have hzT : T 30 0 = Int32.ofNat n := by rw [hT]; exact (congrFun (tkSt_ne (by decide) (by decide)) 0).trans hz
      refine yp_run 3 (pc' := 19) (lv' := [(0, .ref 30), (1, .int g), (2, .int f), (3, .int w), (4, .int v), (5, .int (Int32.ofNat i))]) (st' := [.int (T 30 0), .int (Int32.ofNat i)]) (s' := T) rfl ?_
      refine yp_icmp rfl rfl (fun h => ?_) (fun h => ?_)
      · have h := xT (xc_ge _ _) h
        rw [hzT, i32_to (by omega), i32_to (by omega)] at h
        omega
      · refine yp_run 2 (pc' := 25) (lv' := [(0, .ref 30), (1, .int g), (2, .int f), (3, .int w), (4, .int v), (5, .int (Int32.ofNat i))]) (st' := [.int (Int32.ofNat i), .int g]) (s' := T) rfl ?_
        refine yp_sn rfl rfl rfl (c_hold ?_)
        refine yp_if rfl rfl (fun h28 => ?_) (fun h28 => ?_)
        · refine yp_run 2 (pc' := 13) (lv' := [(0, .ref 30), (1, .int g), (2, .int f), (3, .int w), (4, .int v), (5, .int ((Int32.ofNat i) + 1))]) (st' := []) (s' := T) rfl ?_
          have e8 := ih (i + 1) (by omega)
          rw [hT, tkSt_T (s := s) (S := 30) h28]
          rw [i32_s]
          refine yp_sel [0, 1, 2, 3, 4, 5] ?_
          exact e8
        · refine yp_run 4 (pc' := 39) (lv' := [(0, .ref 30), (1, .int g), (2, .int f), (3, .int w), (4, .int v), (5, .int (Int32.ofNat i))]) (st' := [.int v, .int (Int32.ofNat i), .ref 37]) (s' := T) rfl ?_
          refine yp_vi rfl rfl rfl rfl (c_rset rfl ?_)
          refine yp_run 4 (pc' := 49) (lv' := [(0, .ref 30), (1, .int g), (2, .int f), (3, .int w), (4, .int v), (5, .int (Int32.ofNat i))]) (st' := [.int w, .int (Int32.ofNat i), .ref 39]) (s' := (rset T 37 (Int32.ofNat i) v)) rfl ?_
          refine yp_vi rfl rfl rfl rfl (c_rset rfl ?_)
          refine yp_run 2 (pc' := 13) (lv' := [(0, .ref 30), (1, .int g), (2, .int f), (3, .int w), (4, .int v), (5, .int ((Int32.ofNat i) + 1))]) (st' := []) (s' := (rset (rset T 37 (Int32.ofNat i) v) 39 (Int32.ofNat i) w)) rfl ?_
          have e8 := ih (i + 1) (by omega)
          rw [rset_i (k := 37) (by show i < 8; omega), rset_i (k := 39) (by show i < 8; omega), hT]
          have e9 := tkSt_N (s := s) (S := 30) (v := v) (w := w) h28
          rw [← e9] at e8
          rw [i32_s]
          refine yp_sel [0, 1, 2, 3, 4, 5] ?_
          exact e8
  · have hz : s 52 0 = Int32.ofNat n := hz
    induction m with
    | zero =>
      intro i hi
      obtain ⟨T, hT⟩ : ∃ T, T = (tkSt s 52 g v w i) := ⟨_, rfl⟩
      rw [← hT]
      have hzT : T 52 0 = Int32.ofNat n := by rw [hT]; exact (congrFun (tkSt_ne (by decide) (by decide)) 0).trans hz
      refine yp_run 3 (pc' := 19) (lv' := [(0, .ref 52), (1, .int g), (2, .int f), (3, .int w), (4, .int v), (5, .int (Int32.ofNat i))]) (st' := [.int (T 52 0), .int (Int32.ofNat i)]) (s' := T) rfl ?_
      refine yp_icmp rfl rfl (fun h => ?_) (fun h => ?_)
      · rw [hT, show i = n by omega]
        exact kk
      · have h := xN (xc_ge _ _) h
        rw [hzT, i32_to (by omega), i32_to (by omega)] at h
        omega
    | succ m ih =>
      intro i hi
      obtain ⟨T, hT⟩ : ∃ T, T = (tkSt s 52 g v w i) := ⟨_, rfl⟩
      rw [← hT]
      have hzT : T 52 0 = Int32.ofNat n := by rw [hT]; exact (congrFun (tkSt_ne (by decide) (by decide)) 0).trans hz
      refine yp_run 3 (pc' := 19) (lv' := [(0, .ref 52), (1, .int g), (2, .int f), (3, .int w), (4, .int v), (5, .int (Int32.ofNat i))]) (st' := [.int (T 52 0), .int (Int32.ofNat i)]) (s' := T) rfl ?_
      refine yp_icmp rfl rfl (fun h => ?_) (fun h => ?_)
      · have h := xT (xc_ge _ _) h
        rw [hzT, i32_to (by omega), i32_to (by omega)] at h
        omega
      · refine yp_run 2 (pc' := 25) (lv' := [(0, .ref 52), (1, .int g), (2, .int f), (3, .int w), (4, .int v), (5, .int (Int32.ofNat i))]) (st' := [.int (Int32.ofNat i), .int g]) (s' := T) rfl ?_
        refine yp_sn rfl rfl rfl (c_hold ?_)
        refine yp_if rfl rfl (fun h28 => ?_) (fun h28 => ?_)
        · refine yp_run 2 (pc' := 13) (lv' := [(0, .ref 52), (1, .int g), (2, .int f), (3, .int w), (4, .int v), (5, .int ((Int32.ofNat i) + 1))]) (st' := []) (s' := T) rfl ?_
          have e8 := ih (i + 1) (by omega)
          rw [hT, tkSt_T (s := s) (S := 52) h28]
          rw [i32_s]
          refine yp_sel [0, 1, 2, 3, 4, 5] ?_
          exact e8
        · refine yp_run 4 (pc' := 39) (lv' := [(0, .ref 52), (1, .int g), (2, .int f), (3, .int w), (4, .int v), (5, .int (Int32.ofNat i))]) (st' := [.int v, .int (Int32.ofNat i), .ref 59]) (s' := T) rfl ?_
          refine yp_vi rfl rfl rfl rfl (c_rset rfl ?_)
          refine yp_run 4 (pc' := 49) (lv' := [(0, .ref 52), (1, .int g), (2, .int f), (3, .int w), (4, .int v), (5, .int (Int32.ofNat i))]) (st' := [.int w, .int (Int32.ofNat i), .ref 61]) (s' := (rset T 59 (Int32.ofNat i) v)) rfl ?_
          refine yp_vi rfl rfl rfl rfl (c_rset rfl ?_)
          refine yp_run 2 (pc' := 13) (lv' := [(0, .ref 52), (1, .int g), (2, .int f), (3, .int w), (4, .int v), (5, .int ((Int32.ofNat i) + 1))]) (st' := []) (s' := (rset (rset T 59 (Int32.ofNat i) v) 61 (Int32.ofNat i) w)) rfl ?_
          have e8 := ih (i + 1) (by omega)
          rw [rset_i (k := 59) (by show i < 8; omega), rset_i (k := 61) (by show i < 8; omega), hT]
          have e9 := tkSt_N (s := s) (S := 52) (v := v) (w := w) h28
          rw [← e9] at e8
          rw [i32_s]
          refine yp_sel [0, 1, 2, 3, 4, 5] ?_
          exact e8
theorem c_take {S n : Nat} {g f w : Int32} (hS : yss S) (hn : n ≤ 8) (hz : s S 0 = Int32.ofNat n) (kk : Φ none (tkSt s S g (2 * f + bc6 g - 1) w n)) : Yq sd 37 [.ref S, .int g, .int f, .int w] s Φ := by
  refine Yq.of rfl (Nat.le_of_ble_eq_true rfl) ?_
  rcases hS with rfl | rfl
  · have w1 : Yp sd 37 58 [(0, .ref 30), (1, .int g), (2, .int f), (3, .int w), (4, .int (2 * f + (bc6 g) - 1)), (5, .int (Int32.ofNat n))] [] (tkSt s 30 g (2 * f + bc6 g - 1) w n) Φ := by
      refine yp_rv rfl rfl ?_
      exact kk
    have w2 := lz_tk (by decide) hn hz w1 n 0 (Nat.zero_add _)
    rw [tkSt_0] at w2
    refine yp_run 2 (pc' := 2) (lv' := [(0, .ref 30), (1, .int g), (2, .int f), (3, .int w)]) (st' := [.int g, .int f]) (s' := s) rfl ?_
    refine yp_st rfl rfl (c_bits ?_)
    refine yp_sn rfl rfl rfl (c_inH ?_)
    refine yp_run 3 (pc' := 13) (lv' := [(0, .ref 30), (1, .int g), (2, .int f), (3, .int w), (4, .int (2 * f + (bc6 g) - 1)), (5, .int 0)]) (st' := []) (s' := s) rfl ?_
    exact w2
  · have w1 : Yp sd 37 58 [(0, .ref 52), (1, .int g), (2, .int f), (3, .int w), (4, .int (2 * f + (bc6 g) - 1)), (5, .int (Int32.ofNat n))] [] (tkSt s 52 g (2 * f + bc6 g - 1) w n) Φ := by
      refine yp_rv rfl rfl ?_
      exact kk
    have w2 := lz_tk (by decide) hn hz w1 n 0 (Nat.zero_add _)
    rw [tkSt_0] at w2
    refine yp_run 2 (pc' := 2) (lv' := [(0, .ref 52), (1, .int g), (2, .int f), (3, .int w)]) (st' := [.int g, .int f]) (s' := s) rfl ?_
    refine yp_st rfl rfl (c_bits ?_)
    refine yp_sn rfl rfl rfl (c_inH ?_)
    refine yp_run 3 (pc' := 13) (lv' := [(0, .ref 52), (1, .int g), (2, .int f), (3, .int w), (4, .int (2 * f + (bc6 g) - 1)), (5, .int 0)]) (st' := []) (s' := s) rfl ?_
    exact w2
end YO
