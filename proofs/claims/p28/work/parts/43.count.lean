/-! a judge's marks counted -/
section YU3
variable {sd : Option (List Int32)} {μ pc : Nat} {lv : xL} {st : List Value} {s : yS} {Φ : Option Value → yS → Prop}
theorem cntJ_0 {E : Nat → Nat → Nat → Int32} {d p q J : Nat} (h : xcmp .eq (E J d 0) 0 = true) : cntJ E d p q (J + 1) = cntJ E d p q J := by
  show (bif xcmp .eq (E J d 0) 0 then _ else _) = _
  rw [h]
  rfl
theorem shsJ_0 {E : Nat → Nat → Nat → Int32} {d J : Nat} (h : xcmp .eq (E J d 0) 0 = true) : shsJ E d (J + 1) = shsJ E d J := by
  show (bif xcmp .eq (E J d 0) 0 then _ else _) = _
  rw [h]
  rfl
theorem shsJ_1 {E : Nat → Nat → Nat → Int32} {d J : Nat} (h : xcmp .eq (E J d 0) 0 = false) : shsJ E d (J + 1) = shsJ E d J + 1 := by
  show (bif xcmp .eq (E J d 0) 0 then _ else _) = _
  rw [h]
  rfl
theorem ctf_n {j d n a b : Nat} (hb : b < n) : ctf j d n a b = ctf j (d + 1) 0 a b := by
  unfold ctf
  repeat' split
  all_goals omega
theorem ctf_skip {j d a b : Nat} (h : a ≠ d) : ctf j d 0 a b = ctf j (d + 1) 0 a b := by
  unfold ctf
  repeat' split
  all_goals omega
theorem ctf_sk0 (j d b : Nat) : ctf j d 0 d b = j ∧ ctf j (d + 1) 0 d b = j + 1 := by
  unfold ctf
  constructor
  all_goals (repeat' split)
  all_goals omega
theorem ctg_skip {j d a : Nat} (h : a ≠ d) : ctg j d a = ctg j (d + 1) a := by
  unfold ctg
  repeat' split
  all_goals omega
theorem ctg_sk0 (j d : Nat) : ctg j d d = j ∧ ctg j (d + 1) d = j + 1 := by
  unfold ctg
  constructor
  all_goals (repeat' split)
  all_goals omega
theorem ct_skip {s T : yS} {S n D j d : Nat} {E : Nat → Nat → Nat → Int32} (hE : xcmp .eq (E j d 0) 0 = true) (h : ctInv s T S n D E (ctf j d 0) (ctg j d)) : ctInv s T S n D E (ctf j (d + 1) 0) (ctg j (d + 1)) := by
  obtain ⟨a, b, c⟩ := h
  refine ⟨a, fun x p q h1 h2 h3 => ?_, fun x h1 => ?_⟩
  · rw [b x p q h1 h2 h3]
    by_cases hx : x = d
    · subst hx
      rw [(ctf_sk0 j x p).1, (ctf_sk0 j x p).2, cntJ_0 hE]
    · rw [ctf_skip hx]
  · rw [c x h1]
    by_cases hx : x = d
    · subst hx
      rw [(ctg_sk0 j x).1, (ctg_sk0 j x).2, shsJ_0 hE]
    · rw [ctg_skip hx]
theorem ct_add {s T : yS} {S n D j d : Nat} {E : Nat → Nat → Nat → Int32} (hdD : d < D) (hE : xcmp .eq (E j d 0) 0 = false) (h : ctInv s T S n D E (ctf j d 0) (ctg j d)) : ctInv s (yup T (S + 17) d (T (S + 17) d + 1)) S n D E (ctf j d 0) (ctg j (d + 1)) := by
  obtain ⟨a, b, c⟩ := h
  refine ⟨fun k h1 h2 => (yup_ne h2).trans (a k h1 h2), fun x p q h1 h2 h3 => ?_, fun x h1 => ?_⟩
  · rw [yup_ne (by omega)]
    exact b x p q h1 h2 h3
  · by_cases hx : x = d
    · subst hx
      rw [yup_at, c x h1, (ctg_sk0 j x).1, (ctg_sk0 j x).2, shsJ_1 hE]
    · rw [← ctg_skip hx, ← c x h1]
      unfold yup
      rw [if_neg (fun q => hx q.2)]
theorem ct_next {s T : yS} {S n D j d : Nat} {E : Nat → Nat → Nat → Int32} (h : ctInv s T S n D E (ctf j d n) (ctg j (d + 1))) : ctInv s T S n D E (ctf j (d + 1) 0) (ctg j (d + 1)) :=
  ⟨h.1, fun x p q h1 h2 h3 => by rw [h.2.1 x p q h1 h2 h3, ctf_n h2], h.2.2⟩
theorem lz_co {S n D j : Nat} {E : Nat → Nat → Nat → Int32} (hS : yss S) (hn : n ≤ 7) (hD : D ≤ 5) (hj : j < 7) (hz : s S 0 = Int32.ofNat n) (hD1 : s S 1 = Int32.ofNat D) (hm : ∀ d p, d < 5 → p < 8 → s 27 ((j * 5 + d) * 8 + p) = E j d p) : ∀ (m d : Nat) (T : yS), d + m = D → ctInv s T S n D E (ctf j d 0) (ctg j d) →
    (∀ T' : yS, ctInv s T' S n D E (ctf j D 0) (ctg j D) → Yp sd 13 73 [(0, .ref S), (1, .int (Int32.ofNat j)), (2, .ref 25), (3, .int (Int32.ofNat D))] [] T' Φ) → Yp sd 13 2 [(0, .ref S), (1, .int (Int32.ofNat j)), (2, .ref 25), (3, .int (Int32.ofNat d))] [] T Φ := by
  rcases hS with rfl | rfl
  · have hz : s 30 0 = Int32.ofNat n := hz
    have hD1 : s 30 1 = Int32.ofNat D := hD1
    intro m
    induction m with
    | zero =>
      intro d T hi hI kk
      have fr := hI.1
      have hDT : T 30 1 = Int32.ofNat D := (congrFun (fr _ (by decide) (by decide)) 1).trans hD1
      refine yp_run 3 (pc' := 7) (lv' := [(0, .ref 30), (1, .int (Int32.ofNat j)), (2, .ref 25), (3, .int (Int32.ofNat d))]) (st' := [.int (T 30 1), .int (Int32.ofNat d)]) (s' := T) rfl ?_
      refine yp_icmp rfl rfl (fun h => ?_) (fun h => ?_)
      · rw [show d = D by omega] at hI ⊢
        exact kk T hI
      · have h := xN (xc_ge _ _) h
        rw [hDT, i32_to (by omega), i32_to (by omega)] at h
        omega
    | succ m ih =>
      intro d T hi hI kk
      have fr := hI.1
      have hDT : T 30 1 = Int32.ofNat D := (congrFun (fr _ (by decide) (by decide)) 1).trans hD1
      refine yp_run 3 (pc' := 7) (lv' := [(0, .ref 30), (1, .int (Int32.ofNat j)), (2, .ref 25), (3, .int (Int32.ofNat d))]) (st' := [.int (T 30 1), .int (Int32.ofNat d)]) (s' := T) rfl ?_
      refine yp_icmp rfl rfl (fun h => ?_) (fun h => ?_)
      · have h := xT (xc_ge _ _) h
        rw [hDT, i32_to (by omega), i32_to (by omega)] at h
        omega
      · have gm : gget T 26 (Int32.ofNat j * 5 + Int32.ofNat d) 0 = E j d 0 := by
          rw [show Int32.ofNat j * 5 + Int32.ofNat d = Int32.ofNat (j * 5 + d) by rw [Int32.ofNat_add, Int32.ofNat_mul]; rfl]
          exact (gget_i (k := 26) (b := 0) (by decide) (by decide) (by show (j * 5 + d) * 8 + 0 < 280; omega)).trans ((congrFun (fr 27 (by decide) (by decide)) _).trans (hm d 0 (by omega) (by omega)))
        have hyj : yin (Int32.ofNat j) 7 := by unfold yin; rw [i32_to (by omega)]; omega
        have hyd : yin (Int32.ofNat d) 5 := by unfold yin; rw [i32_to (by omega)]; omega
        refine yp_run 3 (pc' := 13) (lv' := [(0, .ref 30), (1, .int (Int32.ofNat j)), (2, .ref 25), (3, .int (Int32.ofNat d))]) (st' := [.int (Int32.ofNat d), .int (Int32.ofNat j), .ref 25]) (s' := T) rfl ?_
        refine yp_vi rfl rfl rfl rfl (c_has ?_)
        refine yp_if rfl rfl (fun h16 => ?_) (fun h16 => ?_)
        · refine yp_run 2 (pc' := 2) (lv' := [(0, .ref 30), (1, .int (Int32.ofNat j)), (2, .ref 25), (3, .int ((Int32.ofNat d) + 1))]) (st' := []) (s' := T) rfl ?_
          have hE : xcmp .eq (E j d 0) 0 = true := by
            rw [xc_eq]
            refine decide_eq_true ?_
            rw [← gm]
            exact Decidable.not_not.mp (fun e => has_eqT h16 ⟨hyj, hyd, e⟩)
          rw [i32_s]
          exact ih (d + 1) T (by omega) (ct_skip hE hI) kk
        · refine yp_run 4 (pc' := 25) (lv' := [(0, .ref 30), (1, .int (Int32.ofNat j)), (2, .ref 25), (3, .int (Int32.ofNat d))]) (st' := [.int 1, .int (Int32.ofNat d), .ref 46]) (s' := T) rfl ?_
          have hE : xcmp .eq (E j d 0) 0 = false := by
            have := (has_eqF h16).2.2
            rw [gm] at this
            rw [xc_eq]
            exact decide_eq_false this
          refine yp_vi rfl rfl rfl rfl (c_radd rfl ?_)
          have hU : rset T 46 (Int32.ofNat d) (rget T 46 (Int32.ofNat d) + 1) = yup T 47 d (T 47 d + 1) := by
            rw [rset_i (k := 46) (by show d < 5; omega), rget_i (k := 46) (by show d < 5; omega)]
          rw [hU]
          have hI2 := ct_add (by omega) hE hI
          obtain ⟨U, hU9⟩ : ∃ X, X = yup T 47 d (T 47 d + 1) := ⟨_, rfl⟩
          rw [← hU9]
          replace hI2 : ctInv s U 30 n D E (ctf j d 0) (ctg j (d + 1)) := by rw [hU9]; exact hI2
          refine yp_run 2 (pc' := 31) (lv' := [(0, .ref 30), (1, .int (Int32.ofNat j)), (2, .ref 25), (3, .int (Int32.ofNat d)), (4, .int 0)]) (st' := []) (s' := U) rfl ?_
          refine lz_ci (s := s) (E := E) (by decide) hn hD hj hz hD1 hm (by omega) hE n 0 U (Nat.zero_add n) hI2 (fun T9 hI9 => ?_)
          refine yp_run 2 (pc' := 2) (lv' := [(0, .ref 30), (1, .int (Int32.ofNat j)), (2, .ref 25), (3, .int ((Int32.ofNat d) + 1)), (4, .int (Int32.ofNat n))]) (st' := []) (s' := T9) rfl ?_
          rw [i32_s]
          refine yp_sel [0, 1, 2, 3] ?_
          exact ih (d + 1) T9 (by omega) (ct_next hI9) kk
  · have hz : s 52 0 = Int32.ofNat n := hz
    have hD1 : s 52 1 = Int32.ofNat D := hD1
    intro m
    induction m with
    | zero =>
      intro d T hi hI kk
      have fr := hI.1
      have hDT : T 52 1 = Int32.ofNat D := (congrFun (fr _ (by decide) (by decide)) 1).trans hD1
      refine yp_run 3 (pc' := 7) (lv' := [(0, .ref 52), (1, .int (Int32.ofNat j)), (2, .ref 25), (3, .int (Int32.ofNat d))]) (st' := [.int (T 52 1), .int (Int32.ofNat d)]) (s' := T) rfl ?_
      refine yp_icmp rfl rfl (fun h => ?_) (fun h => ?_)
      · rw [show d = D by omega] at hI ⊢
        exact kk T hI
      · have h := xN (xc_ge _ _) h
        rw [hDT, i32_to (by omega), i32_to (by omega)] at h
        omega
    | succ m ih =>
      intro d T hi hI kk
      have fr := hI.1
      have hDT : T 52 1 = Int32.ofNat D := (congrFun (fr _ (by decide) (by decide)) 1).trans hD1
      refine yp_run 3 (pc' := 7) (lv' := [(0, .ref 52), (1, .int (Int32.ofNat j)), (2, .ref 25), (3, .int (Int32.ofNat d))]) (st' := [.int (T 52 1), .int (Int32.ofNat d)]) (s' := T) rfl ?_
      refine yp_icmp rfl rfl (fun h => ?_) (fun h => ?_)
      · have h := xT (xc_ge _ _) h
        rw [hDT, i32_to (by omega), i32_to (by omega)] at h
        omega
      · have gm : gget T 26 (Int32.ofNat j * 5 + Int32.ofNat d) 0 = E j d 0 := by
          rw [show Int32.ofNat j * 5 + Int32.ofNat d = Int32.ofNat (j * 5 + d) by rw [Int32.ofNat_add, Int32.ofNat_mul]; rfl]
          exact (gget_i (k := 26) (b := 0) (by decide) (by decide) (by show (j * 5 + d) * 8 + 0 < 280; omega)).trans ((congrFun (fr 27 (by decide) (by decide)) _).trans (hm d 0 (by omega) (by omega)))
        have hyj : yin (Int32.ofNat j) 7 := by unfold yin; rw [i32_to (by omega)]; omega
        have hyd : yin (Int32.ofNat d) 5 := by unfold yin; rw [i32_to (by omega)]; omega
        refine yp_run 3 (pc' := 13) (lv' := [(0, .ref 52), (1, .int (Int32.ofNat j)), (2, .ref 25), (3, .int (Int32.ofNat d))]) (st' := [.int (Int32.ofNat d), .int (Int32.ofNat j), .ref 25]) (s' := T) rfl ?_
        refine yp_vi rfl rfl rfl rfl (c_has ?_)
        refine yp_if rfl rfl (fun h16 => ?_) (fun h16 => ?_)
        · refine yp_run 2 (pc' := 2) (lv' := [(0, .ref 52), (1, .int (Int32.ofNat j)), (2, .ref 25), (3, .int ((Int32.ofNat d) + 1))]) (st' := []) (s' := T) rfl ?_
          have hE : xcmp .eq (E j d 0) 0 = true := by
            rw [xc_eq]
            refine decide_eq_true ?_
            rw [← gm]
            exact Decidable.not_not.mp (fun e => has_eqT h16 ⟨hyj, hyd, e⟩)
          rw [i32_s]
          exact ih (d + 1) T (by omega) (ct_skip hE hI) kk
        · refine yp_run 4 (pc' := 25) (lv' := [(0, .ref 52), (1, .int (Int32.ofNat j)), (2, .ref 25), (3, .int (Int32.ofNat d))]) (st' := [.int 1, .int (Int32.ofNat d), .ref 68]) (s' := T) rfl ?_
          have hE : xcmp .eq (E j d 0) 0 = false := by
            have := (has_eqF h16).2.2
            rw [gm] at this
            rw [xc_eq]
            exact decide_eq_false this
          refine yp_vi rfl rfl rfl rfl (c_radd rfl ?_)
          have hU : rset T 68 (Int32.ofNat d) (rget T 68 (Int32.ofNat d) + 1) = yup T 69 d (T 69 d + 1) := by
            rw [rset_i (k := 68) (by show d < 5; omega), rget_i (k := 68) (by show d < 5; omega)]
          rw [hU]
          have hI2 := ct_add (by omega) hE hI
          obtain ⟨U, hU9⟩ : ∃ X, X = yup T 69 d (T 69 d + 1) := ⟨_, rfl⟩
          rw [← hU9]
          replace hI2 : ctInv s U 52 n D E (ctf j d 0) (ctg j (d + 1)) := by rw [hU9]; exact hI2
          refine yp_run 2 (pc' := 31) (lv' := [(0, .ref 52), (1, .int (Int32.ofNat j)), (2, .ref 25), (3, .int (Int32.ofNat d)), (4, .int 0)]) (st' := []) (s' := U) rfl ?_
          refine lz_ci (s := s) (E := E) (by decide) hn hD hj hz hD1 hm (by omega) hE n 0 U (Nat.zero_add n) hI2 (fun T9 hI9 => ?_)
          refine yp_run 2 (pc' := 2) (lv' := [(0, .ref 52), (1, .int (Int32.ofNat j)), (2, .ref 25), (3, .int ((Int32.ofNat d) + 1)), (4, .int (Int32.ofNat n))]) (st' := []) (s' := T9) rfl ?_
          rw [i32_s]
          refine yp_sel [0, 1, 2, 3] ?_
          exact ih (d + 1) T9 (by omega) (ct_next hI9) kk
theorem ct_start {s T : yS} {S n D j : Nat} {E : Nat → Nat → Nat → Int32} (h : ctInv s T S n D E (fun _ _ => j) (fun _ => j)) : ctInv s T S n D E (ctf j 0 0) (ctg j 0) := by
  refine ⟨h.1, fun x p q h1 h2 h3 => ?_, fun x h1 => ?_⟩
  · rw [h.2.1 x p q h1 h2 h3]
    unfold ctf
    rw [if_neg (by omega), if_neg (by omega)]
  · rw [h.2.2 x h1]
    unfold ctg
    rw [if_neg (by omega)]
theorem ct_end {s T : yS} {S n D j : Nat} {E : Nat → Nat → Nat → Int32} (h : ctInv s T S n D E (ctf j D 0) (ctg j D)) : ctInv s T S n D E (fun _ _ => j + 1) (fun _ => j + 1) := by
  refine ⟨h.1, fun x p q h1 h2 h3 => ?_, fun x h1 => ?_⟩
  · rw [h.2.1 x p q h1 h2 h3]
    unfold ctf
    rw [if_neg (by omega), if_pos h1]
  · rw [h.2.2 x h1]
    unfold ctg
    rw [if_pos h1]
theorem c_cntM {T : yS} {S n D j : Nat} {E : Nat → Nat → Nat → Int32} (hS : yss S) (hn : n ≤ 7) (hD : D ≤ 5) (hj : j < 7) (hz : s S 0 = Int32.ofNat n) (hD1 : s S 1 = Int32.ofNat D) (hm : ∀ d p, d < 5 → p < 8 → s 27 ((j * 5 + d) * 8 + p) = E j d p) (hI : ctInv s T S n D E (fun _ _ => j) (fun _ => j)) (kk : ∀ T' : yS, ctInv s T' S n D E (fun _ _ => j + 1) (fun _ => j + 1) → Φ none T') : Yq sd 13 [.ref S, .int (Int32.ofNat j), .ref 25] T Φ := by
  refine Yq.of rfl (Nat.le_of_ble_eq_true rfl) ?_
  rcases hS with rfl | rfl
  · refine yp_run 2 (pc' := 2) (lv' := [(0, .ref 30), (1, .int (Int32.ofNat j)), (2, .ref 25), (3, .int 0)]) (st' := []) (s' := T) rfl ?_
    exact lz_co (s := s) (E := E) (by decide) hn hD hj hz hD1 hm D 0 T (Nat.zero_add D) (ct_start hI) (fun T9 hI9 => yp_rv rfl rfl (kk T9 (ct_end hI9)))
  · refine yp_run 2 (pc' := 2) (lv' := [(0, .ref 52), (1, .int (Int32.ofNat j)), (2, .ref 25), (3, .int 0)]) (st' := []) (s' := T) rfl ?_
    exact lz_co (s := s) (E := E) (by decide) hn hD hj hz hD1 hm D 0 T (Nat.zero_add D) (ct_start hI) (fun T9 hI9 => yp_rv rfl rfl (kk T9 (ct_end hI9)))
end YU3
