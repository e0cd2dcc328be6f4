/-! sheets written, erased, exchanged -/
section YZ3
variable {sd : Option (List Int32)} {μ pc : Nat} {lv : xL} {st : List Value} {s : yS} {Φ : Option Value → yS → Prop}
/-- what is left of a number behind i digits; its digit i -/
def rst (t : Int32) : Nat → Int32
  | 0 => t
  | i + 1 => rst t i / 10
def dig (t : Int32) (i : Nat) : Int32 := rst t i - rst t i / 10 * 10
theorem rst_0 : ∀ i, rst 0 i = 0
  | 0 => rfl
  | i + 1 => by
    show rst 0 i / 10 = 0
    rw [rst_0 i]
    decide
theorem dig_0 (i : Nat) : dig 0 i = 0 := by
  unfold dig
  rw [rst_0]
  decide
theorem jd_i (j d : Nat) : Int32.ofNat j * 5 + Int32.ofNat d = Int32.ofNat (j * 5 + d) := by
  rw [Int32.ofNat_add, Int32.ofNat_mul]
  rfl
theorem lz_wi {n j d : Nat} {told : Int32} (hn : n ≤ 8) (hj : j < 7) (hd5 : d < 5) (hz : s 25 0 = Int32.ofNat n) (kk : Yp sd 6 47 [(0, .ref 25), (1, .int (Int32.ofNat j)), (2, .int (Int32.ofNat d)), (3, .int told), (4, .int (rst told n)), (5, .int (Int32.ofNat n))] [] (wr s 27 ((j * 5 + d) * 8) ((j * 5 + d) * 8 + n) (fun q => dig told (q - (j * 5 + d) * 8))) Φ) : ∀ m i : Nat, i + m = n → Yp sd 6 6 [(0, .ref 25), (1, .int (Int32.ofNat j)), (2, .int (Int32.ofNat d)), (3, .int told), (4, .int (rst told i)), (5, .int (Int32.ofNat i))] [] (wr s 27 ((j * 5 + d) * 8) ((j * 5 + d) * 8 + i) (fun q => dig told (q - (j * 5 + d) * 8))) Φ := by
  intro m
  induction m with
  | zero =>
    intro i hi
    obtain ⟨T, hT⟩ : ∃ T, T = (wr s 27 ((j * 5 + d) * 8) ((j * 5 + d) * 8 + i) (fun q => dig told (q - (j * 5 + d) * 8))) := ⟨_, rfl⟩
    rw [← hT]
    have hzT : T 25 0 = Int32.ofNat n := by rw [hT]; exact (congrFun (wr_ne (by decide)) 0).trans hz
    refine yp_run 3 (pc' := 12) (lv' := [(0, .ref 25), (1, .int (Int32.ofNat j)), (2, .int (Int32.ofNat d)), (3, .int told), (4, .int (rst told i)), (5, .int (Int32.ofNat i))]) (st' := [.int (T 25 0), .int (Int32.ofNat i)]) (s' := T) rfl ?_
    refine yp_icmp rfl rfl (fun h => ?_) (fun h => ?_)
    · rw [hT, show i = n by omega]
      exact kk
    · have h := xN (xc_ge _ _) h
      rw [hzT, i32_to (by omega), i32_to (by omega)] at h
      omega
  | succ m ih =>
    intro i hi
    obtain ⟨T, hT⟩ : ∃ T, T = (wr s 27 ((j * 5 + d) * 8) ((j * 5 + d) * 8 + i) (fun q => dig told (q - (j * 5 + d) * 8))) := ⟨_, rfl⟩
    rw [← hT]
    have hzT : T 25 0 = Int32.ofNat n := by rw [hT]; exact (congrFun (wr_ne (by decide)) 0).trans hz
    refine yp_run 3 (pc' := 12) (lv' := [(0, .ref 25), (1, .int (Int32.ofNat j)), (2, .int (Int32.ofNat d)), (3, .int told), (4, .int (rst told i)), (5, .int (Int32.ofNat i))]) (st' := [.int (T 25 0), .int (Int32.ofNat i)]) (s' := T) rfl ?_
    refine yp_icmp rfl rfl (fun h => ?_) (fun h => ?_)
    · have h := xT (xc_ge _ _) h
      rw [hzT, i32_to (by omega), i32_to (by omega)] at h
      omega
    · refine yp_run 11 (pc' := 31) (lv' := [(0, .ref 25), (1, .int (Int32.ofNat j)), (2, .int (Int32.ofNat d)), (3, .int told), (4, .int (rst told i)), (5, .int (Int32.ofNat i))]) (st' := [.int ((rst told i) - (rst told i) / 10 * 10), .int (Int32.ofNat i), .int (((Int32.ofNat j) * 5) + (Int32.ofNat d)), .ref 26]) (s' := T) rfl ?_
      refine yp_vi rfl rfl rfl rfl (c_gset rfl ?_)
      refine yp_run 6 (pc' := 6) (lv' := [(0, .ref 25), (1, .int (Int32.ofNat j)), (2, .int (Int32.ofNat d)), (3, .int told), (4, .int ((rst told i) / 10)), (5, .int ((Int32.ofNat i) + 1))]) (st' := []) (s' := (gset T 26 (((Int32.ofNat j) * 5) + (Int32.ofNat d)) (Int32.ofNat i) ((rst told i) - (rst told i) / 10 * 10))) rfl ?_
      have e8 := ih (i + 1) (by omega)
      have e1 : gset T 26 (Int32.ofNat j * 5 + Int32.ofNat d) (Int32.ofNat i) (rst told i - rst told i / 10 * 10) = wr s 27 ((j * 5 + d) * 8) ((j * 5 + d) * 8 + (i + 1)) (fun q => dig told (q - (j * 5 + d) * 8)) := by
        rw [jd_i, gset_i (k := 26) (by show i < 8; omega) (by decide) (by show (j * 5 + d) * 8 + i < 280; omega), hT]
        exact wr_s (by omega) (by rw [show ((j * 5 + d) * 8 + i) - (j * 5 + d) * 8 = i from by omega]; rfl)
      rw [e1]
      rw [i32_s]
      refine yp_sel [0, 1, 2, 3, 4, 5] ?_
      exact e8
def wrs (s : yS) (j d n : Nat) (told : Int32) : yS := wr s 27 ((j * 5 + d) * 8) ((j * 5 + d) * 8 + n) (fun q => dig told (q - (j * 5 + d) * 8))
theorem c_writ {n j d : Nat} {told : Int32} (hn : n ≤ 8) (hj : j < 7) (hd5 : d < 5) (hz : s 25 0 = Int32.ofNat n) (kk : Φ none (wrs s j d n told)) : Yq sd 6 [.ref 25, .int (Int32.ofNat j), .int (Int32.ofNat d), .int told] s Φ := by
  refine Yq.of rfl (Nat.le_of_ble_eq_true rfl) ?_
  have w1 : Yp sd 6 47 [(0, .ref 25), (1, .int (Int32.ofNat j)), (2, .int (Int32.ofNat d)), (3, .int told), (4, .int (rst told n)), (5, .int (Int32.ofNat n))] [] (wrs s j d n told) Φ := yp_rv rfl rfl kk
  have w2 := lz_wi hn hj hd5 hz w1 n 0 (Nat.zero_add _)
  simp only [Nat.add_zero, wr_0] at w2
  refine yp_run 4 (pc' := 6) (lv' := [(0, .ref 25), (1, .int (Int32.ofNat j)), (2, .int (Int32.ofNat d)), (3, .int told), (4, .int told), (5, .int 0)]) (st' := []) (s' := s) rfl ?_
  exact w2
theorem c_eras {n j d : Nat} (hn : n ≤ 8) (hj : j < 7) (hd5 : d < 5) (hz : s 25 0 = Int32.ofNat n) (kk : Φ none (wrs s j d n 0)) : Yq sd 5 [.ref 25, .int (Int32.ofNat j), .int (Int32.ofNat d)] s Φ := by
  refine Yq.of rfl (Nat.le_of_ble_eq_true rfl) ?_
  refine yp_run 4 (pc' := 4) (lv' := [(0, .ref 25), (1, .int (Int32.ofNat j)), (2, .int (Int32.ofNat d))]) (st' := [.int 0, .int (Int32.ofNat d), .int (Int32.ofNat j), .ref 25]) (s' := s) rfl ?_
  refine yp_vi rfl rfl rfl rfl (c_writ hn hj hd5 hz ?_)
  exact yp_rv rfl rfl kk
/-- a cell put in place of another -/
def yc (s : yS) (k : Nat) (f : Nat → Int32) : yS := fun k' => if k' = k then f else s k'
theorem yc_at {s : yS} {k : Nat} {f : Nat → Int32} : yc s k f k = f := if_pos rfl
theorem yc_ne {s : yS} {k k' : Nat} {f : Nat → Int32} (h : k' ≠ k) : yc s k f k' = s k' := if_neg h
def swp (m : Nat → Int32) (x y : Nat) : Nat → Int32 := fun i => if i = y then m x else if i = x then m y else m i
theorem swp_swp (m : Nat → Int32) (x y : Nat) : swp (swp m x y) x y = m := by
  funext i
  unfold swp
  repeat' split
  all_goals simp_all
theorem swp_comm (m : Nat → Int32) (x y : Nat) : swp m x y = swp m y x := by
  funext i
  unfold swp
  repeat' split
  all_goals simp_all
theorem swp_same (m : Nat → Int32) (x : Nat) : swp m x x = m := by
  funext i
  unfold swp
  repeat' split
  all_goals simp_all
theorem yup_swp (s : yS) (x y : Nat) : yup (yup s 27 x (s 27 y)) 27 y (s 27 x) = yc s 27 (swp (s 27) x y) := by
  funext k i
  unfold yup yc swp
  by_cases hk : k = 27
  · subst hk
    rw [if_pos rfl]
    by_cases h1 : i = y
    · rw [if_pos ⟨rfl, h1⟩, if_pos h1]
    · rw [if_neg (fun q => h1 q.2), if_neg h1]
      by_cases h2 : i = x
      · rw [if_pos h2]
        exact if_pos ⟨rfl, h2⟩
      · rw [if_neg h2]
        exact if_neg (fun q => h2 q.2)
  · rw [if_neg hk, if_neg (fun q => hk q.1)]
    exact if_neg (fun q => hk q.1)
theorem c_exch {j d x y : Nat} (hj : j < 7) (hd5 : d < 5) (hx : x < 8) (hy : y < 8) (kk : Φ none (yc s 27 (swp (s 27) ((j * 5 + d) * 8 + x) ((j * 5 + d) * 8 + y)))) : Yq sd 44 [.ref 25, .int (Int32.ofNat j), .int (Int32.ofNat d), .int (Int32.ofNat x), .int (Int32.ofNat y)] s Φ := by
  refine Yq.of rfl (Nat.le_of_ble_eq_true rfl) ?_
  refine yp_run 4 (pc' := 4) (lv' := [(0, .ref 25), (1, .int (Int32.ofNat j)), (2, .int (Int32.ofNat d)), (3, .int (Int32.ofNat x)), (4, .int (Int32.ofNat y))]) (st' := [.int (Int32.ofNat x), .int (Int32.ofNat d), .int (Int32.ofNat j), .ref 25]) (s' := s) rfl ?_
  have mx : gget s 26 (Int32.ofNat j * 5 + Int32.ofNat d) (Int32.ofNat x) = s 27 ((j * 5 + d) * 8 + x) := by rw [jd_i]; exact gget_i (k := 26) (by show x < 8; omega) (by decide) (by show (j * 5 + d) * 8 + x < 280; omega)
  refine yp_vi rfl rfl rfl rfl (c_markv mx ?_)
  refine yp_run 13 (pc' := 24) (lv' := [(0, .ref 25), (1, .int (Int32.ofNat j)), (2, .int (Int32.ofNat d)), (3, .int (Int32.ofNat x)), (4, .int (Int32.ofNat y)), (5, .int (s 27 ((j * 5 + d) * 8 + x)))]) (st' := [.int (Int32.ofNat y), .int (Int32.ofNat d), .int (Int32.ofNat j), .ref 25, .int (Int32.ofNat x), .int (((Int32.ofNat j) * 5) + (Int32.ofNat d)), .ref 26]) (s' := s) rfl ?_
  have my : gget s 26 (Int32.ofNat j * 5 + Int32.ofNat d) (Int32.ofNat y) = s 27 ((j * 5 + d) * 8 + y) := by rw [jd_i]; exact gget_i (k := 26) (by show y < 8; omega) (by decide) (by show (j * 5 + d) * 8 + y < 280; omega)
  refine yp_vi rfl rfl rfl rfl (c_markv my ?_)
  refine yp_vi rfl rfl rfl rfl (c_gset rfl ?_)
  refine yp_run 9 (pc' := 43) (lv' := [(0, .ref 25), (1, .int (Int32.ofNat j)), (2, .int (Int32.ofNat d)), (3, .int (Int32.ofNat x)), (4, .int (Int32.ofNat y)), (5, .int (s 27 ((j * 5 + d) * 8 + x)))]) (st' := [.int (s 27 ((j * 5 + d) * 8 + x)), .int (Int32.ofNat y), .int (((Int32.ofNat j) * 5) + (Int32.ofNat d)), .ref 26]) (s' := (gset s 26 (((Int32.ofNat j) * 5) + (Int32.ofNat d)) (Int32.ofNat x) (s 27 ((j * 5 + d) * 8 + y)))) rfl ?_
  refine yp_vi rfl rfl rfl rfl (c_gset rfl ?_)
  have e1 : ∀ (U : yS) (p : Nat) (v : Int32), p < 8 → gset U 26 (Int32.ofNat j * 5 + Int32.ofNat d) (Int32.ofNat p) v = yup U 27 ((j * 5 + d) * 8 + p) v := fun U p v hp => by rw [jd_i]; exact gset_i (k := 26) (by show p < 8; omega) (by decide) (by show (j * 5 + d) * 8 + p < 280; omega)
  rw [e1 _ _ _ hx, e1 _ _ _ hy, yup_swp]
  exact yp_rv rfl rfl kk
def ef (w : Int32) (m : Nat → Int32) (j d p : Nat) : Int32 := bif xcmp .ne (hd w (Int32.ofNat j)) 0 then 0 else m ((j * 5 + d) * 8 + p)
theorem stl_kept {T U : yS} {S n D : Nat} {E : Nat → Nat → Nat → Int32} (h : stl T S n D E) (he : ∀ k, S ≤ k → k < S + 22 → U k = T k) : stl U S n D E := by
  obtain ⟨a, b, c, d, e, f, g, i, j⟩ := h
  refine ⟨?_, ?_, fun x y h1 h2 => ?_, fun x y h1 h2 => ?_, fun x h1 => ?_, fun x h1 => ?_, fun x h1 => ?_, fun x y z h1 h2 h3 h4 => ?_, fun x h1 => ?_⟩
  · rw [he S (by omega) (by omega)]; exact a
  · rw [he S (by omega) (by omega)]; exact b
  · rw [he _ (by omega) (by omega)]; exact c x y h1 h2
  · rw [he _ (by omega) (by omega)]; exact d x y h1 h2
  · rw [he _ (by omega) (by omega)]; exact e x h1
  · rw [he _ (by omega) (by omega)]; exact f x h1
  · rw [he _ (by omega) (by omega)]; exact g x h1
  · rw [he _ (by omega) (by omega)]; exact i x y z h1 h2 h3 h4
  · rw [he _ (by omega) (by omega)]; exact j x h1
theorem c_tryE {n D j d x y : Nat} (hn : n ≤ 7) (hD : D ≤ 5) (hj : j < 7) (hd5 : d < 5) (hx : x < 8) (hy : y < 8) (h25 : s 25 0 = Int32.ofNat n) (h26 : s 25 1 = Int32.ofNat D) (h29 : ∀ d, d < 5 → s 29 d = 0) (hW : ∀ R, R < 40 → s 67 (R * 9 + (n + 1)) = 0)
    (kk : ∀ T : yS, (∀ k, (k < 52 ∨ 74 ≤ k) → T k = s k) → stl T 52 n D (ef 0 (swp (s 27) ((j * 5 + d) * 8 + x) ((j * 5 + d) * 8 + y))) → Φ none T) : Yq sd 43 [.ref 0, .int (Int32.ofNat j), .int (Int32.ofNat d), .int (Int32.ofNat x), .int (Int32.ofNat y)] s Φ := by
  refine Yq.of rfl (Nat.le_of_ble_eq_true rfl) ?_
  refine yp_run 6 (pc' := 9) (lv' := [(0, .ref 0), (1, .int (Int32.ofNat j)), (2, .int (Int32.ofNat d)), (3, .int (Int32.ofNat x)), (4, .int (Int32.ofNat y))]) (st' := [.int (Int32.ofNat y), .int (Int32.ofNat x), .int (Int32.ofNat d), .int (Int32.ofNat j), .ref 25]) (s' := s) rfl ?_
  refine yp_vi rfl rfl rfl rfl (c_exch hj hd5 hx hy ?_)
  obtain ⟨X, hX⟩ : ∃ X, X = yc s 27 (swp (s 27) ((j * 5 + d) * 8 + x) ((j * 5 + d) * 8 + y)) := ⟨_, rfl⟩
  show ybk sd 43 12 _ [] Φ none (yc s 27 (swp (s 27) ((j * 5 + d) * 8 + x) ((j * 5 + d) * 8 + y)))
  rw [← hX]
  have fX : ∀ k, k ≠ 27 → X k = s k := fun k q => by rw [hX]; exact yc_ne q
  refine yp_run 5 (pc' := 21) (lv' := [(0, .ref 0), (1, .int (Int32.ofNat j)), (2, .int (Int32.ofNat d)), (3, .int (Int32.ofNat x)), (4, .int (Int32.ofNat y))]) (st' := [.int 0, .ref 25, .ref 52]) (s' := X) rfl ?_
  refine yp_vi rfl rfl rfl rfl (c_settle (S := 52) (E := ef 0 (swp (s 27) ((j * 5 + d) * 8 + x) ((j * 5 + d) * 8 + y))) (by decide) hn hD ((congrFun (fX _ (by decide)) 0).trans h25) ((congrFun (fX _ (by decide)) 1).trans h26) (fun e h1 => (congrFun (fX _ (by decide)) e).trans (h29 e h1)) (fun R h1 => (congrFun (fX _ (by decide)) _).trans (hW R h1)) (fun a b c h1 h2 h3 => by unfold ef; rw [hX, yc_at]) (fun T fT hT => ?_))
  refine yp_run 6 (pc' := 33) (lv' := [(0, .ref 0), (1, .int (Int32.ofNat j)), (2, .int (Int32.ofNat d)), (3, .int (Int32.ofNat x)), (4, .int (Int32.ofNat y))]) (st' := [.int (Int32.ofNat y), .int (Int32.ofNat x), .int (Int32.ofNat d), .int (Int32.ofNat j), .ref 25]) (s' := T) rfl ?_
  refine yp_vi rfl rfl rfl rfl (c_exch hj hd5 hx hy ?_)
  refine yp_rv rfl rfl (kk _ (fun k hk => ?_) (stl_kept hT (fun k h1 h2 => yc_ne (by omega))))
  by_cases e : k = 27
  · subst e
    rw [yc_at, fT 27 (by decide), hX, yc_at, swp_swp]
  · rw [yc_ne e, fT k (by omega), fX k e]
end YZ3
