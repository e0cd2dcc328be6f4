/-! places in a dance -/
section YS3
variable {sd : Option (List Int32)} {μ pc : Nat} {lv : xL} {st : List Value} {s : yS} {Φ : Option Value → yS → Prop}
/-- behind i of the first loop: rows summed, turns known -/
def plInv (s T : yS) (S n d i : Nat) (C : Nat → Nat → Int32) (TR : Nat → Nat) : Prop :=
  (∀ k, k ≠ S + 13 → k ≠ S + 15 → k ≠ S + 19 → T k = s k) ∧
  (∀ p q, p < i → 1 ≤ q → q ≤ n → T (S + 13) ((d * 8 + p) * 9 + q) = pre (C p) q) ∧
  (∀ p q, p < i → 1 ≤ q → q ≤ n → T (S + 15) ((d * 8 + p) * 9 + q) = prw (C p) q) ∧
  (∀ p, p < i → T (S + 19) p = Int32.ofNat (TR p)) ∧
  (∀ R q, q < 9 → (R < d * 8 ∨ d * 8 + i ≤ R ∨ q = 0 ∨ n < q) → T (S + 13) (R * 9 + q) = s (S + 13) (R * 9 + q)) ∧
  (∀ R q, q < 9 → (R < d * 8 ∨ d * 8 + i ≤ R ∨ q = 0 ∨ n < q) → T (S + 15) (R * 9 + q) = s (S + 15) (R * 9 + q))
theorem plInv_0 (s : yS) (S n d : Nat) (C : Nat → Nat → Int32) (TR : Nat → Nat) : plInv s s S n d 0 C TR :=
  ⟨fun _ _ _ _ => rfl, fun _ _ h => absurd h (Nat.not_lt_zero _), fun _ _ h => absurd h (Nat.not_lt_zero _), fun _ h => absurd h (Nat.not_lt_zero _), fun _ _ _ _ => rfl, fun _ _ _ _ => rfl⟩
theorem sumSt_num {s : yS} {S R n R' q : Nat} {C : Nat → Int32} (hn : n ≤ 8) (hq : q < 9) : (R' = R → 1 ≤ q → q ≤ n → sumSt s S R n C (S + 13) (R' * 9 + q) = pre C q) ∧ ((R' ≠ R ∨ q = 0 ∨ n < q) → sumSt s S R n C (S + 13) (R' * 9 + q) = s (S + 13) (R' * 9 + q)) := by
  unfold sumSt
  rw [wr_ne (by omega)]
  refine ⟨fun e h1 h2 => ?_, fun h => ?_⟩
  · rw [wr_in (by omega) (by omega)]
    congr 1
    omega
  · exact wr_out (by omega)
theorem sumSt_wgt {s : yS} {S R n R' q : Nat} {C : Nat → Int32} (hn : n ≤ 8) (hq : q < 9) : (R' = R → 1 ≤ q → q ≤ n → sumSt s S R n C (S + 15) (R' * 9 + q) = prw C q) ∧ ((R' ≠ R ∨ q = 0 ∨ n < q) → sumSt s S R n C (S + 15) (R' * 9 + q) = s (S + 15) (R' * 9 + q)) := by
  unfold sumSt
  refine ⟨fun e h1 h2 => ?_, fun h => ?_⟩
  · rw [wr_in (by omega) (by omega)]
    congr 1
    omega
  · rw [wr_out (by omega), wr_ne (by omega)]
theorem sumSt_ne {s : yS} {S R n k : Nat} {C : Nat → Int32} (h1 : k ≠ S + 13) (h2 : k ≠ S + 15) : sumSt s S R n C k = s k := by
  unfold sumSt
  rw [wr_ne h2, wr_ne h1]
/-- one more -/
theorem plInv_s {s T : yS} {S n d i : Nat} {C : Nat → Nat → Int32} {TR : Nat → Nat} (hn : n ≤ 8) (h : plInv s T S n d i C TR) : plInv s (yup (sumSt T S (d * 8 + i) n (C i)) (S + 19) i (Int32.ofNat (TR i))) S n d (i + 1) C TR := by
  obtain ⟨a, b, c, e, f, g⟩ := h
  refine ⟨fun k h1 h2 h3 => ?_, fun p q hp h1 h2 => ?_, fun p q hp h1 h2 => ?_, fun p hp => ?_, fun R q hq hR => ?_, fun R q hq hR => ?_⟩
  · rw [yup_ne h3, sumSt_ne h1 h2]
    exact a k h1 h2 h3
  · rw [yup_ne (by omega)]
    by_cases hpi : p = i
    · subst hpi
      exact (sumSt_num hn (by omega)).1 rfl h1 h2
    · rw [(sumSt_num hn (by omega)).2 (by omega)]
      exact b p q (by omega) h1 h2
  · rw [yup_ne (by omega)]
    by_cases hpi : p = i
    · subst hpi
      exact (sumSt_wgt hn (by omega)).1 rfl h1 h2
    · rw [(sumSt_wgt hn (by omega)).2 (by omega)]
      exact c p q (by omega) h1 h2
  · by_cases hpi : p = i
    · subst hpi
      exact yup_at
    · have : yup (sumSt T S (d * 8 + i) n (C i)) (S + 19) i (Int32.ofNat (TR i)) (S + 19) p = sumSt T S (d * 8 + i) n (C i) (S + 19) p := by
        unfold yup
        rw [if_neg (fun q => hpi q.2)]
      rw [this, sumSt_ne (by omega) (by omega)]
      exact e p (by omega)
  · rw [yup_ne (by omega), (sumSt_num hn hq).2 (by omega)]
    exact f R q hq (by omega)
  · rw [yup_ne (by omega), (sumSt_wgt hn hq).2 (by omega)]
    exact g R q hq (by omega)
theorem lz_pa {S n d : Nat} {C : Nat → Nat → Int32} {SH : Int32} {TR : Nat → Nat} (hS : yss S) (hn : n ≤ 7) (hd5 : d < 5) (hz : s S 0 = Int32.ofNat n) (hw : s (S + 11) 0 = Int32.ofNat n) (hC : ∀ p q, p < n → 1 ≤ q → q ≤ n → s (S + 13) ((d * 8 + p) * 9 + q) = C p q) (hSH : s (S + 17) d = SH) (h29 : s 29 d = 0) (hTRd : ∀ p, p < n → TR p = trN n (pre (C p)) (SH / 2 + 1) n 1) : ∀ (m i : Nat) (T : yS), i + m = n → plInv s T S n d i C TR →
    (∀ T' : yS, plInv s T' S n d n C TR → Yp sd 18 48 [(0, .ref S), (1, .int (Int32.ofNat d)), (2, .ref 25), (3, .int (Int32.ofNat n))] [] T' Φ) → Yp sd 18 2 [(0, .ref S), (1, .int (Int32.ofNat d)), (2, .ref 25), (3, .int (Int32.ofNat i))] [] T Φ := by
  rcases hS with rfl | rfl
  · have hz : s 30 0 = Int32.ofNat n := hz
    have hw : s 41 0 = Int32.ofNat n := hw
    have hSH : s 47 d = SH := hSH
    intro m
    induction m with
    | zero =>
      intro i T hi hI kk
      have fr := hI.1
      have hzT : T 30 0 = Int32.ofNat n := (congrFun (fr _ (by decide) (by decide) (by decide)) 0).trans hz
      refine yp_run 3 (pc' := 7) (lv' := [(0, .ref 30), (1, .int (Int32.ofNat d)), (2, .ref 25), (3, .int (Int32.ofNat i))]) (st' := [.int (T 30 0), .int (Int32.ofNat i)]) (s' := T) rfl ?_
      refine yp_icmp rfl rfl (fun h => ?_) (fun h => ?_)
      · rw [show i = n by omega] at hI ⊢
        exact kk T hI
      · have h := xN (xc_ge _ _) h
        rw [hzT, i32_to (by omega), i32_to (by omega)] at h
        omega
    | succ m ih =>
      intro i T hi hI kk
      have fr := hI.1
      have hzT : T 30 0 = Int32.ofNat n := (congrFun (fr _ (by decide) (by decide) (by decide)) 0).trans hz
      refine yp_run 3 (pc' := 7) (lv' := [(0, .ref 30), (1, .int (Int32.ofNat d)), (2, .ref 25), (3, .int (Int32.ofNat i))]) (st' := [.int (T 30 0), .int (Int32.ofNat i)]) (s' := T) rfl ?_
      refine yp_icmp rfl rfl (fun h => ?_) (fun h => ?_)
      · have h := xT (xc_ge _ _) h
        rw [hzT, i32_to (by omega), i32_to (by omega)] at h
        omega
      · refine yp_run 4 (pc' := 16) (lv' := [(0, .ref 30), (1, .int (Int32.ofNat d)), (2, .ref 25), (3, .int (Int32.ofNat i))]) (st' := [.int (Int32.ofNat i), .int (Int32.ofNat d), .ref 41]) (s' := T) rfl ?_
        refine yp_st rfl rfl (c_rowOf ?_)
        have hwT : T 41 0 = Int32.ofNat n := (congrFun (fr _ (by decide) (by decide) (by decide)) 0).trans hw
        rw [row_i]
        refine yp_vi rfl rfl rfl rfl (c_sum (C := C i) (by decide) (by omega) (by omega) hwT (fun q h1 h2 => ((hI.2.2.2.2.1 (d * 8 + i) q (by omega) (Or.inr (Or.inl (by omega)))).trans (hC i q (by omega) h1 h2)).symm) ?_)
        obtain ⟨U, hU⟩ : ∃ X, X = sumSt T 30 (d * 8 + i) n (C i) := ⟨_, rfl⟩
        rw [← hU]
        have fU : ∀ k, k ≠ 43 → k ≠ 45 → U k = T k := fun k a b => by rw [hU]; exact sumSt_ne a b
        refine yp_run 9 (pc' := 33) (lv' := [(0, .ref 30), (1, .int (Int32.ofNat d)), (2, .ref 25), (3, .int (Int32.ofNat i))]) (st' := [.int (Int32.ofNat d), .int (Int32.ofNat i), .ref 25, .int (Int32.ofNat i), .int (Int32.ofNat d), .ref 30, .int (Int32.ofNat i), .ref 48]) (s' := U) rfl ?_
        have h9 : rget U 28 (Int32.ofNat d) = 0 := (rget_i (by show d < 5; omega)).trans ((congrFun ((fU _ (by decide) (by decide)).trans (fr _ (by decide) (by decide) (by decide))) d).trans h29)
        refine yp_vi rfl rfl rfl rfl (c_pen0 h9 ?_)
        have hzU : U 30 0 = Int32.ofNat n := (congrFun (fU _ (by decide) (by decide)) 0).trans hzT
        have hSU : U 47 d = SH := (congrFun ((fU _ (by decide) (by decide)).trans (fr _ (by decide) (by decide) (by decide))) d).trans hSH
        have e5 := hTRd i (by omega)
        refine yp_vi rfl rfl rfl rfl (c_turn (NB := pre (C i)) (by decide) hn hd5 (by omega) hzU (fun q h1 h2 => by rw [hU]; exact (sumSt_num (by omega) (by omega)).1 rfl h1 h2) hSU ?_)
        refine yp_vi rfl rfl rfl rfl (c_rset rfl ?_)
        refine yp_run 2 (pc' := 2) (lv' := [(0, .ref 30), (1, .int (Int32.ofNat d)), (2, .ref 25), (3, .int ((Int32.ofNat i) + 1))]) (st' := []) (s' := (rset U 48 (Int32.ofNat i) (Int32.ofNat (trN n (pre (C i)) (SH / 2 + 1) n 1)))) rfl ?_
        have e6 := plInv_s (by omega) hI
        rw [← e5, rset_i (k := 48) (by show i < 8; omega), i32_s, hU]
        exact ih (i + 1) _ (by omega) e6 kk
  · have hz : s 52 0 = Int32.ofNat n := hz
    have hw : s 63 0 = Int32.ofNat n := hw
    have hSH : s 69 d = SH := hSH
    intro m
    induction m with
    | zero =>
      intro i T hi hI kk
      have fr := hI.1
      have hzT : T 52 0 = Int32.ofNat n := (congrFun (fr _ (by decide) (by decide) (by decide)) 0).trans hz
      refine yp_run 3 (pc' := 7) (lv' := [(0, .ref 52), (1, .int (Int32.ofNat d)), (2, .ref 25), (3, .int (Int32.ofNat i))]) (st' := [.int (T 52 0), .int (Int32.ofNat i)]) (s' := T) rfl ?_
      refine yp_icmp rfl rfl (fun h => ?_) (fun h => ?_)
      · rw [show i = n by omega] at hI ⊢
        exact kk T hI
      · have h := xN (xc_ge _ _) h
        rw [hzT, i32_to (by omega), i32_to (by omega)] at h
        omega
    | succ m ih =>
      intro i T hi hI kk
      have fr := hI.1
      have hzT : T 52 0 = Int32.ofNat n := (congrFun (fr _ (by decide) (by decide) (by decide)) 0).trans hz
      refine yp_run 3 (pc' := 7) (lv' := [(0, .ref 52), (1, .int (Int32.ofNat d)), (2, .ref 25), (3, .int (Int32.ofNat i))]) (st' := [.int (T 52 0), .int (Int32.ofNat i)]) (s' := T) rfl ?_
      refine yp_icmp rfl rfl (fun h => ?_) (fun h => ?_)
      · have h := xT (xc_ge _ _) h
        rw [hzT, i32_to (by omega), i32_to (by omega)] at h
        omega
      · refine yp_run 4 (pc' := 16) (lv' := [(0, .ref 52), (1, .int (Int32.ofNat d)), (2, .ref 25), (3, .int (Int32.ofNat i))]) (st' := [.int (Int32.ofNat i), .int (Int32.ofNat d), .ref 63]) (s' := T) rfl ?_
        refine yp_st rfl rfl (c_rowOf ?_)
        have hwT : T 63 0 = Int32.ofNat n := (congrFun (fr _ (by decide) (by decide) (by decide)) 0).trans hw
        rw [row_i]
        refine yp_vi rfl rfl rfl rfl (c_sum (C := C i) (by decide) (by omega) (by omega) hwT (fun q h1 h2 => ((hI.2.2.2.2.1 (d * 8 + i) q (by omega) (Or.inr (Or.inl (by omega)))).trans (hC i q (by omega) h1 h2)).symm) ?_)
        obtain ⟨U, hU⟩ : ∃ X, X = sumSt T 52 (d * 8 + i) n (C i) := ⟨_, rfl⟩
        rw [← hU]
        have fU : ∀ k, k ≠ 65 → k ≠ 67 → U k = T k := fun k a b => by rw [hU]; exact sumSt_ne a b
        refine yp_run 9 (pc' := 33) (lv' := [(0, .ref 52), (1, .int (Int32.ofNat d)), (2, .ref 25), (3, .int (Int32.ofNat i))]) (st' := [.int (Int32.ofNat d), .int (Int32.ofNat i), .ref 25, .int (Int32.ofNat i), .int (Int32.ofNat d), .ref 52, .int (Int32.ofNat i), .ref 70]) (s' := U) rfl ?_
        have h9 : rget U 28 (Int32.ofNat d) = 0 := (rget_i (by show d < 5; omega)).trans ((congrFun ((fU _ (by decide) (by decide)).trans (fr _ (by decide) (by decide) (by decide))) d).trans h29)
        refine yp_vi rfl rfl rfl rfl (c_pen0 h9 ?_)
        have hzU : U 52 0 = Int32.ofNat n := (congrFun (fU _ (by decide) (by decide)) 0).trans hzT
        have hSU : U 69 d = SH := (congrFun ((fU _ (by decide) (by decide)).trans (fr _ (by decide) (by decide) (by decide))) d).trans hSH
        have e5 := hTRd i (by omega)
        refine yp_vi rfl rfl rfl rfl (c_turn (NB := pre (C i)) (by decide) hn hd5 (by omega) hzU (fun q h1 h2 => by rw [hU]; exact (sumSt_num (by omega) (by omega)).1 rfl h1 h2) hSU ?_)
        refine yp_vi rfl rfl rfl rfl (c_rset rfl ?_)
        refine yp_run 2 (pc' := 2) (lv' := [(0, .ref 52), (1, .int (Int32.ofNat d)), (2, .ref 25), (3, .int ((Int32.ofNat i) + 1))]) (st' := []) (s' := (rset U 70 (Int32.ofNat i) (Int32.ofNat (trN n (pre (C i)) (SH / 2 + 1) n 1)))) rfl ?_
        have e6 := plInv_s (by omega) hI
        rw [← e5, rset_i (k := 70) (by show i < 8; omega), i32_s, hU]
        exact ih (i + 1) _ (by omega) e6 kk
def als (n : Nat) (TR : Nat → Nat) (WG : Nat → Nat → Int32) (pos : Nat) (i : Nat) (a : Int32 × Int32) : Int32 × Int32 := (bif xcmp .ge (cmd n TR WG i pos) 0 then (bif xcmp .ne (cmd n TR WG i pos) 0 then ((a.1 + 0), (a.2 + 0)) else ((a.1 + 0), (a.2 + 1))) else (bif xcmp .ne (cmd n TR WG i pos) 0 then ((a.1 + 1), (a.2 + 0)) else ((a.1 + 1), (a.2 + 1))))
theorem als_eq (n : Nat) (TR : Nat → Nat) (WG : Nat → Nat → Int32) (pos : Nat) (i : Nat) (a : Int32 × Int32) : als n TR WG pos i a = (bif xcmp .ge (cmd n TR WG i pos) 0 then (bif xcmp .ne (cmd n TR WG i pos) 0 then ((a.1 + 0), (a.2 + 0)) else ((a.1 + 0), (a.2 + 1))) else (bif xcmp .ne (cmd n TR WG i pos) 0 then ((a.1 + 1), (a.2 + 0)) else ((a.1 + 1), (a.2 + 1)))) := rfl
theorem lz_al {S : Nat} {n : Nat} {TR : Nat → Nat} {WG : Nat → Nat → Int32} {pos : Nat} {a0 : Int32 × Int32} {d : Nat} (hS : yss S) (hn : n ≤ 7) (hd5 : d < 5) (hpn : pos < n) (hz : s S 0 = Int32.ofNat n) (hw : s (S + 11) 0 = Int32.ofNat n) (hTR : ∀ p, p < n → s (S + 19) p = Int32.ofNat (TR p)) (hT1 : ∀ p, p < n → 1 ≤ TR p ∧ TR p ≤ n + 1) (hWG : ∀ p q, p < n → 1 ≤ q → q ≤ n → s (S + 15) ((d * 8 + p) * 9 + q) = WG p q) (kk : Yp sd 18 122 [(0, .ref S), (1, .int (Int32.ofNat d)), (2, .ref 25), (3, .int (Int32.ofNat pos)), (4, .int ((itf (als n TR WG pos) n a0).1)), (5, .int ((itf (als n TR WG pos) n a0).2)), (6, .int (Int32.ofNat n))] [] s Φ) : ∀ m i : Nat, i + m = n → Yp sd 18 67 [(0, .ref S), (1, .int (Int32.ofNat d)), (2, .ref 25), (3, .int (Int32.ofNat pos)), (4, .int ((itf (als n TR WG pos) i a0).1)), (5, .int ((itf (als n TR WG pos) i a0).2)), (6, .int (Int32.ofNat i))] [] s Φ := by
  intro m
  rcases hS with rfl | rfl
  · have hz : s 30 0 = Int32.ofNat n := hz
    induction m with
    | zero =>
      intro i hi
      refine yp_run 3 (pc' := 73) (lv' := [(0, .ref 30), (1, .int (Int32.ofNat d)), (2, .ref 25), (3, .int (Int32.ofNat pos)), (4, .int ((itf (als n TR WG pos) i a0).1)), (5, .int ((itf (als n TR WG pos) i a0).2)), (6, .int (Int32.ofNat i))]) (st' := [.int (s 30 0), .int (Int32.ofNat i)]) (s' := s) rfl ?_
      refine yp_icmp rfl rfl (fun h => ?_) (fun h => ?_)
      · rw [show i = n by omega]
        exact kk
      · have h := xN (xc_ge _ _) h
        rw [hz, i32_to (by omega), i32_to (by omega)] at h
        omega
    | succ m ih =>
      intro i hi
      refine yp_run 3 (pc' := 73) (lv' := [(0, .ref 30), (1, .int (Int32.ofNat d)), (2, .ref 25), (3, .int (Int32.ofNat pos)), (4, .int ((itf (als n TR WG pos) i a0).1)), (5, .int ((itf (als n TR WG pos) i a0).2)), (6, .int (Int32.ofNat i))]) (st' := [.int (s 30 0), .int (Int32.ofNat i)]) (s' := s) rfl ?_
      refine yp_icmp rfl rfl (fun h => ?_) (fun h => ?_)
      · have h := xT (xc_ge _ _) h
        rw [hz, i32_to (by omega), i32_to (by omega)] at h
        omega
      · refine yp_run 4 (pc' := 81) (lv' := [(0, .ref 30), (1, .int (Int32.ofNat d)), (2, .ref 25), (3, .int (Int32.ofNat pos)), (4, .int ((itf (als n TR WG pos) i a0).1)), (5, .int ((itf (als n TR WG pos) i a0).2)), (6, .int (Int32.ofNat i))]) (st' := [.int (Int32.ofNat pos), .int (Int32.ofNat i), .int (Int32.ofNat d), .ref 30]) (s' := s) rfl ?_
        refine yp_vi rfl rfl rfl rfl (c_cmpD (TR := TR) (WG := WG) (by decide) hn hd5 (by omega) hpn hw hTR hT1 hWG ?_)
        refine yp_run 3 (pc' := 90) (lv' := [(0, .ref 30), (1, .int (Int32.ofNat d)), (2, .ref 25), (3, .int (Int32.ofNat pos)), (4, .int ((itf (als n TR WG pos) i a0).1)), (5, .int ((itf (als n TR WG pos) i a0).2)), (6, .int (Int32.ofNat i)), (7, .int (cmd n TR WG i pos))]) (st' := [.int (cmd n TR WG i pos), .int ((itf (als n TR WG pos) i a0).1)]) (s' := s) rfl ?_
        refine yp_if rfl rfl (fun h90 => ?_) (fun h90 => ?_)
        · refine yp_run 5 (pc' := 105) (lv' := [(0, .ref 30), (1, .int (Int32.ofNat d)), (2, .ref 25), (3, .int (Int32.ofNat pos)), (4, .int (((itf (als n TR WG pos) i a0).1) + 0)), (5, .int ((itf (als n TR WG pos) i a0).2)), (6, .int (Int32.ofNat i)), (7, .int (cmd n TR WG i pos))]) (st' := [.int (cmd n TR WG i pos), .int ((itf (als n TR WG pos) i a0).2)]) (s' := s) rfl ?_
          refine yp_if rfl rfl (fun h105 => ?_) (fun h105 => ?_)
          · refine yp_run 5 (pc' := 67) (lv' := [(0, .ref 30), (1, .int (Int32.ofNat d)), (2, .ref 25), (3, .int (Int32.ofNat pos)), (4, .int (((itf (als n TR WG pos) i a0).1) + 0)), (5, .int (((itf (als n TR WG pos) i a0).2) + 0)), (6, .int ((Int32.ofNat i) + 1)), (7, .int (cmd n TR WG i pos))]) (st' := []) (s' := s) rfl ?_
            have e9 : (itf (als n TR WG pos) (i + 1) a0) = ((((itf (als n TR WG pos) i a0).1) + 0), (((itf (als n TR WG pos) i a0).2) + 0)) := by
              refine (als_eq n TR WG pos i (itf (als n TR WG pos) i a0)).trans ?_
              simp only [h90, h105, cond_true, cond_false]
            have e8 := ih (i + 1) (by omega)
            rw [e9] at e8
            rw [i32_s]
            refine yp_sel [0, 1, 2, 3, 4, 5, 6] ?_
            exact e8
          · refine yp_run 6 (pc' := 67) (lv' := [(0, .ref 30), (1, .int (Int32.ofNat d)), (2, .ref 25), (3, .int (Int32.ofNat pos)), (4, .int (((itf (als n TR WG pos) i a0).1) + 0)), (5, .int (((itf (als n TR WG pos) i a0).2) + 1)), (6, .int ((Int32.ofNat i) + 1)), (7, .int (cmd n TR WG i pos))]) (st' := []) (s' := s) rfl ?_
            have e9 : (itf (als n TR WG pos) (i + 1) a0) = ((((itf (als n TR WG pos) i a0).1) + 0), (((itf (als n TR WG pos) i a0).2) + 1)) := by
              refine (als_eq n TR WG pos i (itf (als n TR WG pos) i a0)).trans ?_
              simp only [h90, h105, cond_true, cond_false]
            have e8 := ih (i + 1) (by omega)
            rw [e9] at e8
            rw [i32_s]
            refine yp_sel [0, 1, 2, 3, 4, 5, 6] ?_
            exact e8
        · refine yp_run 6 (pc' := 105) (lv' := [(0, .ref 30), (1, .int (Int32.ofNat d)), (2, .ref 25), (3, .int (Int32.ofNat pos)), (4, .int (((itf (als n TR WG pos) i a0).1) + 1)), (5, .int ((itf (als n TR WG pos) i a0).2)), (6, .int (Int32.ofNat i)), (7, .int (cmd n TR WG i pos))]) (st' := [.int (cmd n TR WG i pos), .int ((itf (als n TR WG pos) i a0).2)]) (s' := s) rfl ?_
          refine yp_if rfl rfl (fun h105 => ?_) (fun h105 => ?_)
          · refine yp_run 5 (pc' := 67) (lv' := [(0, .ref 30), (1, .int (Int32.ofNat d)), (2, .ref 25), (3, .int (Int32.ofNat pos)), (4, .int (((itf (als n TR WG pos) i a0).1) + 1)), (5, .int (((itf (als n TR WG pos) i a0).2) + 0)), (6, .int ((Int32.ofNat i) + 1)), (7, .int (cmd n TR WG i pos))]) (st' := []) (s' := s) rfl ?_
            have e9 : (itf (als n TR WG pos) (i + 1) a0) = ((((itf (als n TR WG pos) i a0).1) + 1), (((itf (als n TR WG pos) i a0).2) + 0)) := by
              refine (als_eq n TR WG pos i (itf (als n TR WG pos) i a0)).trans ?_
              simp only [h90, h105, cond_true, cond_false]
            have e8 := ih (i + 1) (by omega)
            rw [e9] at e8
            rw [i32_s]
            refine yp_sel [0, 1, 2, 3, 4, 5, 6] ?_
            exact e8
          · refine yp_run 6 (pc' := 67) (lv' := [(0, .ref 30), (1, .int (Int32.ofNat d)), (2, .ref 25), (3, .int (Int32.ofNat pos)), (4, .int (((itf (als n TR WG pos) i a0).1) + 1)), (5, .int (((itf (als n TR WG pos) i a0).2) + 1)), (6, .int ((Int32.ofNat i) + 1)), (7, .int (cmd n TR WG i pos))]) (st' := []) (s' := s) rfl ?_
            have e9 : (itf (als n TR WG pos) (i + 1) a0) = ((((itf (als n TR WG pos) i a0).1) + 1), (((itf (als n TR WG pos) i a0).2) + 1)) := by
              refine (als_eq n TR WG pos i (itf (als n TR WG pos) i a0)).trans ?_
              simp only [h90, h105, cond_true, cond_false]
            have e8 := ih (i + 1) (by omega)
            rw [e9] at e8
            rw [i32_s]
            refine yp_sel [0, 1, 2, 3, 4, 5, 6] ?_
            exact e8
  · have hz : s 52 0 = Int32.ofNat n := hz
    induction m with
    | zero =>
      intro i hi
      refine yp_run 3 (pc' := 73) (lv' := [(0, .ref 52), (1, .int (Int32.ofNat d)), (2, .ref 25), (3, .int (Int32.ofNat pos)), (4, .int ((itf (als n TR WG pos) i a0).1)), (5, .int ((itf (als n TR WG pos) i a0).2)), (6, .int (Int32.ofNat i))]) (st' := [.int (s 52 0), .int (Int32.ofNat i)]) (s' := s) rfl ?_
      refine yp_icmp rfl rfl (fun h => ?_) (fun h => ?_)
      · rw [show i = n by omega]
        exact kk
      · have h := xN (xc_ge _ _) h
        rw [hz, i32_to (by omega), i32_to (by omega)] at h
        omega
    | succ m ih =>
      intro i hi
      refine yp_run 3 (pc' := 73) (lv' := [(0, .ref 52), (1, .int (Int32.ofNat d)), (2, .ref 25), (3, .int (Int32.ofNat pos)), (4, .int ((itf (als n TR WG pos) i a0).1)), (5, .int ((itf (als n TR WG pos) i a0).2)), (6, .int (Int32.ofNat i))]) (st' := [.int (s 52 0), .int (Int32.ofNat i)]) (s' := s) rfl ?_
      refine yp_icmp rfl rfl (fun h => ?_) (fun h => ?_)
      · have h := xT (xc_ge _ _) h
        rw [hz, i32_to (by omega), i32_to (by omega)] at h
        omega
      · refine yp_run 4 (pc' := 81) (lv' := [(0, .ref 52), (1, .int (Int32.ofNat d)), (2, .ref 25), (3, .int (Int32.ofNat pos)), (4, .int ((itf (als n TR WG pos) i a0).1)), (5, .int ((itf (als n TR WG pos) i a0).2)), (6, .int (Int32.ofNat i))]) (st' := [.int (Int32.ofNat pos), .int (Int32.ofNat i), .int (Int32.ofNat d), .ref 52]) (s' := s) rfl ?_
        refine yp_vi rfl rfl rfl rfl (c_cmpD (TR := TR) (WG := WG) (by decide) hn hd5 (by omega) hpn hw hTR hT1 hWG ?_)
        refine yp_run 3 (pc' := 90) (lv' := [(0, .ref 52), (1, .int (Int32.ofNat d)), (2, .ref 25), (3, .int (Int32.ofNat pos)), (4, .int ((itf (als n TR WG pos) i a0).1)), (5, .int ((itf (als n TR WG pos) i a0).2)), (6, .int (Int32.ofNat i)), (7, .int (cmd n TR WG i pos))]) (st' := [.int (cmd n TR WG i pos), .int ((itf (als n TR WG pos) i a0).1)]) (s' := s) rfl ?_
        refine yp_if rfl rfl (fun h90 => ?_) (fun h90 => ?_)
        · refine yp_run 5 (pc' := 105) (lv' := [(0, .ref 52), (1, .int (Int32.ofNat d)), (2, .ref 25), (3, .int (Int32.ofNat pos)), (4, .int (((itf (als n TR WG pos) i a0).1) + 0)), (5, .int ((itf (als n TR WG pos) i a0).2)), (6, .int (Int32.ofNat i)), (7, .int (cmd n TR WG i pos))]) (st' := [.int (cmd n TR WG i pos), .int ((itf (als n TR WG pos) i a0).2)]) (s' := s) rfl ?_
          refine yp_if rfl rfl (fun h105 => ?_) (fun h105 => ?_)
          · refine yp_run 5 (pc' := 67) (lv' := [(0, .ref 52), (1, .int (Int32.ofNat d)), (2, .ref 25), (3, .int (Int32.ofNat pos)), (4, .int (((itf (als n TR WG pos) i a0).1) + 0)), (5, .int (((itf (als n TR WG pos) i a0).2) + 0)), (6, .int ((Int32.ofNat i) + 1)), (7, .int (cmd n TR WG i pos))]) (st' := []) (s' := s) rfl ?_
            have e9 : (itf (als n TR WG pos) (i + 1) a0) = ((((itf (als n TR WG pos) i a0).1) + 0), (((itf (als n TR WG pos) i a0).2) + 0)) := by
              refine (als_eq n TR WG pos i (itf (als n TR WG pos) i a0)).trans ?_
              simp only [h90, h105, cond_true, cond_false]
            have e8 := ih (i + 1) (by omega)
            rw [e9] at e8
            rw [i32_s]
            refine yp_sel [0, 1, 2, 3, 4, 5, 6] ?_
            exact e8
          · refine yp_run 6 (pc' := 67) (lv' := [(0, .ref 52), (1, .int (Int32.ofNat d)), (2, .ref 25), (3, .int (Int32.ofNat pos)), (4, .int (((itf (als n TR WG pos) i a0).1) + 0)), (5, .int (((itf (als n TR WG pos) i a0).2) + 1)), (6, .int ((Int32.ofNat i) + 1)), (7, .int (cmd n TR WG i pos))]) (st' := []) (s' := s) rfl ?_
            have e9 : (itf (als n TR WG pos) (i + 1) a0) = ((((itf (als n TR WG pos) i a0).1) + 0), (((itf (als n TR WG pos) i a0).2) + 1)) := by
              refine (als_eq n TR WG pos i (itf (als n TR WG pos) i a0)).trans ?_
              simp only [h90, h105, cond_true, cond_false]
            have e8 := ih (i + 1) (by omega)
            rw [e9] at e8
            rw [i32_s]
            refine yp_sel [0, 1, 2, 3, 4, 5, 6] ?_
            exact e8
        · refine yp_run 6 (pc' := 105) (lv' := [(0, .ref 52), (1, .int (Int32.ofNat d)), (2, .ref 25), (3, .int (Int32.ofNat pos)), (4, .int (((itf (als n TR WG pos) i a0).1) + 1)), (5, .int ((itf (als n TR WG pos) i a0).2)), (6, .int (Int32.ofNat i)), (7, .int (cmd n TR WG i pos))]) (st' := [.int (cmd n TR WG i pos), .int ((itf (als n TR WG pos) i a0).2)]) (s' := s) rfl ?_
          refine yp_if rfl rfl (fun h105 => ?_) (fun h105 => ?_)
          · refine yp_run 5 (pc' := 67) (lv' := [(0, .ref 52), (1, .int (Int32.ofNat d)), (2, .ref 25), (3, .int (Int32.ofNat pos)), (4, .int (((itf (als n TR WG pos) i a0).1) + 1)), (5, .int (((itf (als n TR WG pos) i a0).2) + 0)), (6, .int ((Int32.ofNat i) + 1)), (7, .int (cmd n TR WG i pos))]) (st' := []) (s' := s) rfl ?_
            have e9 : (itf (als n TR WG pos) (i + 1) a0) = ((((itf (als n TR WG pos) i a0).1) + 1), (((itf (als n TR WG pos) i a0).2) + 0)) := by
              refine (als_eq n TR WG pos i (itf (als n TR WG pos) i a0)).trans ?_
              simp only [h90, h105, cond_true, cond_false]
            have e8 := ih (i + 1) (by omega)
            rw [e9] at e8
            rw [i32_s]
            refine yp_sel [0, 1, 2, 3, 4, 5, 6] ?_
            exact e8
          · refine yp_run 6 (pc' := 67) (lv' := [(0, .ref 52), (1, .int (Int32.ofNat d)), (2, .ref 25), (3, .int (Int32.ofNat pos)), (4, .int (((itf (als n TR WG pos) i a0).1) + 1)), (5, .int (((itf (als n TR WG pos) i a0).2) + 1)), (6, .int ((Int32.ofNat i) + 1)), (7, .int (cmd n TR WG i pos))]) (st' := []) (s' := s) rfl ?_
            have e9 : (itf (als n TR WG pos) (i + 1) a0) = ((((itf (als n TR WG pos) i a0).1) + 1), (((itf (als n TR WG pos) i a0).2) + 1)) := by
              refine (als_eq n TR WG pos i (itf (als n TR WG pos) i a0)).trans ?_
              simp only [h90, h105, cond_true, cond_false]
            have e8 := ih (i + 1) (by omega)
            rw [e9] at e8
            rw [i32_s]
            refine yp_sel [0, 1, 2, 3, 4, 5, 6] ?_
            exact e8
def ahd (n : Nat) (TR : Nat → Nat) (WG : Nat → Nat → Int32) (pos : Nat) : Int32 × Int32 := itf (als n TR WG pos) n (0, 0)
def plc (n : Nat) (TR : Nat → Nat) (WG : Nat → Nat → Int32) (pos : Nat) : Int32 := 2 * ((ahd n TR WG pos).1 + 1) + (ahd n TR WG pos).2 - 1
def rsn (n : Nat) (TR : Nat → Nat) (NB WG : Nat → Nat → Int32) (pos : Nat) : Int32 := bif xcmp .le (ahd n TR WG pos).2 1 then rea n TR NB WG pos else 4
def pbSt (s : yS) (S n d : Nat) (TR : Nat → Nat) (NB WG : Nat → Nat → Int32) (i : Nat) : yS := wr (wr s (S + 2) (d * 8) (d * 8 + i) (fun j => plc n TR WG (j - d * 8))) (S + 4) (d * 8) (d * 8 + i) (fun j => rsn n TR NB WG (j - d * 8))
theorem pbSt_0 (s : yS) (S n d : Nat) (TR : Nat → Nat) (NB WG : Nat → Nat → Int32) : pbSt s S n d TR NB WG 0 = s := by
  unfold pbSt
  simp only [Nat.add_zero, wr_0]
theorem pbSt_s {s : yS} {S n d i : Nat} {TR : Nat → Nat} {NB WG : Nat → Nat → Int32} {v w : Int32} (hv : v = plc n TR WG i) (hw : w = rsn n TR NB WG i) : yup (yup (pbSt s S n d TR NB WG i) (S + 2) (d * 8 + i) v) (S + 4) (d * 8 + i) w = pbSt s S n d TR NB WG (i + 1) := by
  unfold pbSt
  rw [yup_wr (by omega), wr_s (by omega) (by rw [hw]; congr 1; omega), wr_s (by omega) (by rw [hv]; congr 1; omega)]
  rfl
theorem pbSt_ne {s : yS} {S n d i k : Nat} {TR : Nat → Nat} {NB WG : Nat → Nat → Int32} (h1 : k ≠ S + 2) (h2 : k ≠ S + 4) : pbSt s S n d TR NB WG i k = s k := by
  unfold pbSt
  rw [wr_ne h2, wr_ne h1]
theorem lz_pb {S : Nat} {n d : Nat} {TR : Nat → Nat} {NB WG : Nat → Nat → Int32} (hS : yss S) (hn : n ≤ 7) (hd5 : d < 5) (hz : s S 0 = Int32.ofNat n) (hw : s (S + 11) 0 = Int32.ofNat n) (h29 : s 29 d = 0) (hTR : ∀ p, p < n → s (S + 19) p = Int32.ofNat (TR p)) (hT1 : ∀ p, p < n → 1 ≤ TR p ∧ TR p ≤ n + 1) (hWG : ∀ p q, p < n → 1 ≤ q → q ≤ n + 1 → s (S + 15) ((d * 8 + p) * 9 + q) = WG p q) (hNB : ∀ p q, p < n → 1 ≤ q → q ≤ n + 1 → s (S + 13) ((d * 8 + p) * 9 + q) = NB p q) (kk : Yp sd 18 188 [(0, .ref S), (1, .int (Int32.ofNat d)), (2, .ref 25), (3, .int (Int32.ofNat n))] [] (pbSt s S n d TR NB WG n) Φ) : ∀ m i : Nat, i + m = n → Yp sd 18 50 [(0, .ref S), (1, .int (Int32.ofNat d)), (2, .ref 25), (3, .int (Int32.ofNat i))] [] (pbSt s S n d TR NB WG i) Φ := by
  intro m
  rcases hS with rfl | rfl
  · have hz : s 30 0 = Int32.ofNat n := hz
    have hw : s 41 0 = Int32.ofNat n := hw
    induction m with
    | zero =>
      intro i hi
      obtain ⟨T, hT⟩ : ∃ T, T = (pbSt s 30 n d TR NB WG i) := ⟨_, rfl⟩
      rw [← hT]
      have hk : ∀ k, k ≠ 32 → k ≠ 34 → T k = s k := fun k a b => by rw [hT]; exact pbSt_ne a b
      have hzT : T 30 0 = Int32.ofNat n := (congrFun (hk _ (by decide) (by decide)) 0).trans hz
      have hwT : T 41 0 = Int32.ofNat n := (congrFun (hk _ (by decide) (by decide)) 0).trans hw
      have hTRT : ∀ p, p < n → T 49 p = Int32.ofNat (TR p) := fun p a => (congrFun (hk _ (by decide) (by decide)) p).trans (hTR p a)
      have hWGT : ∀ p q, p < n → 1 ≤ q → q ≤ n + 1 → T 45 ((d * 8 + p) * 9 + q) = WG p q := fun p q a b c => (congrFun (hk _ (by decide) (by decide)) _).trans (hWG p q a b c)
      have hNBT : ∀ p q, p < n → 1 ≤ q → q ≤ n + 1 → T 43 ((d * 8 + p) * 9 + q) = NB p q := fun p q a b c => (congrFun (hk _ (by decide) (by decide)) _).trans (hNB p q a b c)
      refine yp_run 3 (pc' := 55) (lv' := [(0, .ref 30), (1, .int (Int32.ofNat d)), (2, .ref 25), (3, .int (Int32.ofNat i))]) (st' := [.int (T 30 0), .int (Int32.ofNat i)]) (s' := T) rfl ?_
      refine yp_icmp rfl rfl (fun h => ?_) (fun h => ?_)
      · rw [hT, show i = n by omega]
        exact kk
      · have h := xN (xc_ge _ _) h
        rw [hzT, i32_to (by omega), i32_to (by omega)] at h
        omega
    | succ m ih =>
      intro i hi
      obtain ⟨T, hT⟩ : ∃ T, T = (pbSt s 30 n d TR NB WG i) := ⟨_, rfl⟩
      rw [← hT]
      have hk : ∀ k, k ≠ 32 → k ≠ 34 → T k = s k := fun k a b => by rw [hT]; exact pbSt_ne a b
      have hzT : T 30 0 = Int32.ofNat n := (congrFun (hk _ (by decide) (by decide)) 0).trans hz
      have hwT : T 41 0 = Int32.ofNat n := (congrFun (hk _ (by decide) (by decide)) 0).trans hw
      have hTRT : ∀ p, p < n → T 49 p = Int32.ofNat (TR p) := fun p a => (congrFun (hk _ (by decide) (by decide)) p).trans (hTR p a)
      have hWGT : ∀ p q, p < n → 1 ≤ q → q ≤ n + 1 → T 45 ((d * 8 + p) * 9 + q) = WG p q := fun p q a b c => (congrFun (hk _ (by decide) (by decide)) _).trans (hWG p q a b c)
      have hNBT : ∀ p q, p < n → 1 ≤ q → q ≤ n + 1 → T 43 ((d * 8 + p) * 9 + q) = NB p q := fun p q a b c => (congrFun (hk _ (by decide) (by decide)) _).trans (hNB p q a b c)
      refine yp_run 3 (pc' := 55) (lv' := [(0, .ref 30), (1, .int (Int32.ofNat d)), (2, .ref 25), (3, .int (Int32.ofNat i))]) (st' := [.int (T 30 0), .int (Int32.ofNat i)]) (s' := T) rfl ?_
      refine yp_icmp rfl rfl (fun h => ?_) (fun h => ?_)
      · have h := xT (xc_ge _ _) h
        rw [hzT, i32_to (by omega), i32_to (by omega)] at h
        omega
      · refine yp_run 6 (pc' := 67) (lv' := [(0, .ref 30), (1, .int (Int32.ofNat d)), (2, .ref 25), (3, .int (Int32.ofNat i)), (4, .int 0), (5, .int 0), (6, .int 0)]) (st' := []) (s' := T) rfl ?_
        refine lz_al (a0 := (0, 0)) (pos := i) (by decide) hn hd5 (by omega) hzT hwT hTRT hT1 (fun p q a b c => hWGT p q a b (by omega)) ?_ n 0 (Nat.zero_add _)
        refine yp_run 8 (pc' := 134) (lv' := [(0, .ref 30), (1, .int (Int32.ofNat d)), (2, .ref 25), (3, .int (Int32.ofNat i)), (4, .int ((itf (als n TR WG i) n (0, 0)).1)), (5, .int ((itf (als n TR WG i) n (0, 0)).2)), (6, .int (Int32.ofNat n))]) (st' := [.int ((itf (als n TR WG i) n (0, 0)).2), .int (((itf (als n TR WG i) n (0, 0)).1) + 1), .int (Int32.ofNat i), .int (Int32.ofNat d), .ref 31]) (s' := T) rfl ?_
        refine yp_sn rfl rfl rfl (c_inH ?_)
        refine yp_vi rfl rfl rfl rfl (c_gset rfl ?_)
        refine yp_run 2 (pc' := 143) (lv' := [(0, .ref 30), (1, .int (Int32.ofNat d)), (2, .ref 25), (3, .int (Int32.ofNat i)), (4, .int ((itf (als n TR WG i) n (0, 0)).1)), (5, .int ((itf (als n TR WG i) n (0, 0)).2)), (6, .int (Int32.ofNat n))]) (st' := [.int 1, .int ((itf (als n TR WG i) n (0, 0)).2)]) (s' := (gset T 31 (Int32.ofNat d) (Int32.ofNat i) (2 * (((itf (als n TR WG i) n (0, 0)).1) + 1) + ((itf (als n TR WG i) n (0, 0)).2) - 1))) rfl ?_
        refine yp_icmp rfl rfl (fun h143 => ?_) (fun h143 => ?_)
        · refine yp_run 3 (pc' := 153) (lv' := [(0, .ref 30), (1, .int (Int32.ofNat d)), (2, .ref 25), (3, .int (Int32.ofNat i)), (4, .int ((itf (als n TR WG i) n (0, 0)).1)), (5, .int ((itf (als n TR WG i) n (0, 0)).2)), (6, .int (Int32.ofNat n))]) (st' := [.int (Int32.ofNat i), .int (Int32.ofNat d), .ref 30]) (s' := (gset T 31 (Int32.ofNat d) (Int32.ofNat i) (2 * (((itf (als n TR WG i) n (0, 0)).1) + 1) + ((itf (als n TR WG i) n (0, 0)).2) - 1))) rfl ?_
          have e7 : ∀ (k : Nat) (v : Int32), k ≠ 32 → gset T 31 (Int32.ofNat d) (Int32.ofNat i) v k = T k := fun k v a => by rw [gset_i (k := 31) (by show i < 8; omega) (by decide) (by show d * 8 + i < 40; omega)]; exact yup_ne a
          refine yp_vi rfl rfl rfl rfl (c_reas (TR := TR) (NB := NB) (WG := WG) (by decide) hn hd5 (by omega) (hT1 i (by omega)).1 (hT1 i (by omega)).2 ((congrFun (e7 _ _ (by decide)) _).trans hzT) (fun p a => (congrFun (e7 _ _ (by decide)) _).trans (hTRT p a)) (fun p q a b c => (congrFun (e7 _ _ (by decide)) _).trans (hWGT p q a b c)) (fun p q a b c => (congrFun (e7 _ _ (by decide)) _).trans (hNBT p q a b c)) ?_)
          refine yp_run 8 (pc' := 167) (lv' := [(0, .ref 30), (1, .int (Int32.ofNat d)), (2, .ref 25), (3, .int (Int32.ofNat i)), (4, .int ((itf (als n TR WG i) n (0, 0)).1)), (5, .int ((itf (als n TR WG i) n (0, 0)).2)), (6, .int (rea n TR NB WG i))]) (st' := [.int (Int32.ofNat d), .int (Int32.ofNat i), .ref 25, .int (Int32.ofNat i), .int (Int32.ofNat d), .ref 33]) (s' := (gset T 31 (Int32.ofNat d) (Int32.ofNat i) (2 * (((itf (als n TR WG i) n (0, 0)).1) + 1) + ((itf (als n TR WG i) n (0, 0)).2) - 1))) rfl ?_
          have h9 : rget (gset T 31 (Int32.ofNat d) (Int32.ofNat i) (2 * (((itf (als n TR WG i) n (0, 0)).1) + 1) + ((itf (als n TR WG i) n (0, 0)).2) - 1)) 28 (Int32.ofNat d) = 0 := by
            rw [gset_i (k := 31) (by show i < 8; omega) (by decide) (by show d * 8 + i < 40; omega)]
            exact (rget_i (by show d < 5; omega)).trans ((congrFun ((yup_ne (by decide)).trans (hk _ (by decide) (by decide))) d).trans h29)
          refine yp_vi rfl rfl rfl rfl (c_pen0 h9 ?_)
          refine yp_if rfl rfl (fun h170 => ?_) (fun h170 => ?_)
          · refine yp_run 1 (pc' := 179) (lv' := [(0, .ref 30), (1, .int (Int32.ofNat d)), (2, .ref 25), (3, .int (Int32.ofNat i)), (4, .int ((itf (als n TR WG i) n (0, 0)).1)), (5, .int ((itf (als n TR WG i) n (0, 0)).2)), (6, .int (rea n TR NB WG i))]) (st' := [.int (rea n TR NB WG i), .int (Int32.ofNat i), .int (Int32.ofNat d), .ref 33]) (s' := (gset T 31 (Int32.ofNat d) (Int32.ofNat i) (2 * (((itf (als n TR WG i) n (0, 0)).1) + 1) + ((itf (als n TR WG i) n (0, 0)).2) - 1))) rfl ?_
            refine yp_vi rfl rfl rfl rfl (c_gset rfl ?_)
            refine yp_run 2 (pc' := 50) (lv' := [(0, .ref 30), (1, .int (Int32.ofNat d)), (2, .ref 25), (3, .int ((Int32.ofNat i) + 1)), (4, .int ((itf (als n TR WG i) n (0, 0)).1)), (5, .int ((itf (als n TR WG i) n (0, 0)).2)), (6, .int (rea n TR NB WG i))]) (st' := []) (s' := (gset (gset T 31 (Int32.ofNat d) (Int32.ofNat i) (2 * (((itf (als n TR WG i) n (0, 0)).1) + 1) + ((itf (als n TR WG i) n (0, 0)).2) - 1)) 33 (Int32.ofNat d) (Int32.ofNat i) (rea n TR NB WG i))) rfl ?_
            have e8 := ih (i + 1) (by omega)
            have e1 : ∀ v : Int32, gset T 31 (Int32.ofNat d) (Int32.ofNat i) v = yup T 32 (d * 8 + i) v := fun v => gset_i (k := 31) (by show i < 8; omega) (by decide) (by show d * 8 + i < 40; omega)
            have e2 : ∀ (U : yS) (v : Int32), gset U 33 (Int32.ofNat d) (Int32.ofNat i) v = yup U 34 (d * 8 + i) v := fun U v => gset_i (k := 33) (by show i < 8; omega) (by decide) (by show d * 8 + i < 40; omega)
            rw [e1, e2, hT]
            have e9 := pbSt_s (s := s) (S := 30) (n := n) (d := d) (i := i) (TR := TR) (NB := NB) (WG := WG) rfl rfl
            rw [← e9] at e8
            have e10 : rsn n TR NB WG i = rea n TR NB WG i := by
              unfold rsn
              have h143 := h143
              unfold ahd
              rw [h143]
              rfl
            rw [e10] at e8
            rw [i32_s]
            refine yp_sel [0, 1, 2, 3] ?_
            exact e8
          · cases h170
        · refine yp_run 10 (pc' := 167) (lv' := [(0, .ref 30), (1, .int (Int32.ofNat d)), (2, .ref 25), (3, .int (Int32.ofNat i)), (4, .int ((itf (als n TR WG i) n (0, 0)).1)), (5, .int ((itf (als n TR WG i) n (0, 0)).2)), (6, .int 4)]) (st' := [.int (Int32.ofNat d), .int (Int32.ofNat i), .ref 25, .int (Int32.ofNat i), .int (Int32.ofNat d), .ref 33]) (s' := (gset T 31 (Int32.ofNat d) (Int32.ofNat i) (2 * (((itf (als n TR WG i) n (0, 0)).1) + 1) + ((itf (als n TR WG i) n (0, 0)).2) - 1))) rfl ?_
          have h9 : rget (gset T 31 (Int32.ofNat d) (Int32.ofNat i) (2 * (((itf (als n TR WG i) n (0, 0)).1) + 1) + ((itf (als n TR WG i) n (0, 0)).2) - 1)) 28 (Int32.ofNat d) = 0 := by
            rw [gset_i (k := 31) (by show i < 8; omega) (by decide) (by show d * 8 + i < 40; omega)]
            exact (rget_i (by show d < 5; omega)).trans ((congrFun ((yup_ne (by decide)).trans (hk _ (by decide) (by decide))) d).trans h29)
          refine yp_vi rfl rfl rfl rfl (c_pen0 h9 ?_)
          refine yp_if rfl rfl (fun h170 => ?_) (fun h170 => ?_)
          · refine yp_run 1 (pc' := 179) (lv' := [(0, .ref 30), (1, .int (Int32.ofNat d)), (2, .ref 25), (3, .int (Int32.ofNat i)), (4, .int ((itf (als n TR WG i) n (0, 0)).1)), (5, .int ((itf (als n TR WG i) n (0, 0)).2)), (6, .int 4)]) (st' := [.int 4, .int (Int32.ofNat i), .int (Int32.ofNat d), .ref 33]) (s' := (gset T 31 (Int32.ofNat d) (Int32.ofNat i) (2 * (((itf (als n TR WG i) n (0, 0)).1) + 1) + ((itf (als n TR WG i) n (0, 0)).2) - 1))) rfl ?_
            refine yp_vi rfl rfl rfl rfl (c_gset rfl ?_)
            refine yp_run 2 (pc' := 50) (lv' := [(0, .ref 30), (1, .int (Int32.ofNat d)), (2, .ref 25), (3, .int ((Int32.ofNat i) + 1)), (4, .int ((itf (als n TR WG i) n (0, 0)).1)), (5, .int ((itf (als n TR WG i) n (0, 0)).2)), (6, .int 4)]) (st' := []) (s' := (gset (gset T 31 (Int32.ofNat d) (Int32.ofNat i) (2 * (((itf (als n TR WG i) n (0, 0)).1) + 1) + ((itf (als n TR WG i) n (0, 0)).2) - 1)) 33 (Int32.ofNat d) (Int32.ofNat i) 4)) rfl ?_
            have e8 := ih (i + 1) (by omega)
            have e1 : ∀ v : Int32, gset T 31 (Int32.ofNat d) (Int32.ofNat i) v = yup T 32 (d * 8 + i) v := fun v => gset_i (k := 31) (by show i < 8; omega) (by decide) (by show d * 8 + i < 40; omega)
            have e2 : ∀ (U : yS) (v : Int32), gset U 33 (Int32.ofNat d) (Int32.ofNat i) v = yup U 34 (d * 8 + i) v := fun U v => gset_i (k := 33) (by show i < 8; omega) (by decide) (by show d * 8 + i < 40; omega)
            rw [e1, e2, hT]
            have e9 := pbSt_s (s := s) (S := 30) (n := n) (d := d) (i := i) (TR := TR) (NB := NB) (WG := WG) rfl rfl
            rw [← e9] at e8
            have e10 : rsn n TR NB WG i = 4 := by
              unfold rsn
              have h143 := h143
              unfold ahd
              rw [h143]
              rfl
            rw [e10] at e8
            rw [i32_s]
            refine yp_sel [0, 1, 2, 3] ?_
            exact e8
          · cases h170
  · have hz : s 52 0 = Int32.ofNat n := hz
    have hw : s 63 0 = Int32.ofNat n := hw
    induction m with
    | zero =>
      intro i hi
      obtain ⟨T, hT⟩ : ∃ T, T = (pbSt s 52 n d TR NB WG i) := ⟨_, rfl⟩
      rw [← hT]
      have hk : ∀ k, k ≠ 54 → k ≠ 56 → T k = s k := fun k a b => by rw [hT]; exact pbSt_ne a b
      have hzT : T 52 0 = Int32.ofNat n := (congrFun (hk _ (by decide) (by decide)) 0).trans hz
      have hwT : T 63 0 = Int32.ofNat n := (congrFun (hk _ (by decide) (by decide)) 0).trans hw
      have hTRT : ∀ p, p < n → T 71 p = Int32.ofNat (TR p) := fun p a => (congrFun (hk _ (by decide) (by decide)) p).trans (hTR p a)
      have hWGT : ∀ p q, p < n → 1 ≤ q → q ≤ n + 1 → T 67 ((d * 8 + p) * 9 + q) = WG p q := fun p q a b c => (congrFun (hk _ (by decide) (by decide)) _).trans (hWG p q a b c)
      have hNBT : ∀ p q, p < n → 1 ≤ q → q ≤ n + 1 → T 65 ((d * 8 + p) * 9 + q) = NB p q := fun p q a b c => (congrFun (hk _ (by decide) (by decide)) _).trans (hNB p q a b c)
      refine yp_run 3 (pc' := 55) (lv' := [(0, .ref 52), (1, .int (Int32.ofNat d)), (2, .ref 25), (3, .int (Int32.ofNat i))]) (st' := [.int (T 52 0), .int (Int32.ofNat i)]) (s' := T) rfl ?_
      refine yp_icmp rfl rfl (fun h => ?_) (fun h => ?_)
      · rw [hT, show i = n by omega]
        exact kk
      · have h := xN (xc_ge _ _) h
        rw [hzT, i32_to (by omega), i32_to (by omega)] at h
        omega
    | succ m ih =>
      intro i hi
      obtain ⟨T, hT⟩ : ∃ T, T = (pbSt s 52 n d TR NB WG i) := ⟨_, rfl⟩
      rw [← hT]
      have hk : ∀ k, k ≠ 54 → k ≠ 56 → T k = s k := fun k a b => by rw [hT]; exact pbSt_ne a b
      have hzT : T 52 0 = Int32.ofNat n := (congrFun (hk _ (by decide) (by decide)) 0).trans hz
      have hwT : T 63 0 = Int32.ofNat n := (congrFun (hk _ (by decide) (by decide)) 0).trans hw
      have hTRT : ∀ p, p < n → T 71 p = Int32.ofNat (TR p) := fun p a => (congrFun (hk _ (by decide) (by decide)) p).trans (hTR p a)
      have hWGT : ∀ p q, p < n → 1 ≤ q → q ≤ n + 1 → T 67 ((d * 8 + p) * 9 + q) = WG p q := fun p q a b c => (congrFun (hk _ (by decide) (by decide)) _).trans (hWG p q a b c)
      have hNBT : ∀ p q, p < n → 1 ≤ q → q ≤ n + 1 → T 65 ((d * 8 + p) * 9 + q) = NB p q := fun p q a b c => (congrFun (hk _ (by decide) (by decide)) _).trans (hNB p q a b c)
      refine yp_run 3 (pc' := 55) (lv' := [(0, .ref 52), (1, .int (Int32.ofNat d)), (2, .ref 25), (3, .int (Int32.ofNat i))]) (st' := [.int (T 52 0), .int (Int32.ofNat i)]) (s' := T) rfl ?_
      refine yp_icmp rfl rfl (fun h => ?_) (fun h => ?_)
      · have h := xT (xc_ge _ _) h
        rw [hzT, i32_to (by omega), i32_to (by omega)] at h
        omega
      · refine yp_run 6 (pc' := 67) (lv' := [(0, .ref 52), (1, .int (Int32.ofNat d)), (2, .ref 25), (3, .int (Int32.ofNat i)), (4, .int 0), (5, .int 0), (6, .int 0)]) (st' := []) (s' := T) rfl ?_
        refine lz_al (a0 := (0, 0)) (pos := i) (by decide) hn hd5 (by omega) hzT hwT hTRT hT1 (fun p q a b c => hWGT p q a b (by omega)) ?_ n 0 (Nat.zero_add _)
        refine yp_run 8 (pc' := 134) (lv' := [(0, .ref 52), (1, .int (Int32.ofNat d)), (2, .ref 25), (3, .int (Int32.ofNat i)), (4, .int ((itf (als n TR WG i) n (0, 0)).1)), (5, .int ((itf (als n TR WG i) n (0, 0)).2)), (6, .int (Int32.ofNat n))]) (st' := [.int ((itf (als n TR WG i) n (0, 0)).2), .int (((itf (als n TR WG i) n (0, 0)).1) + 1), .int (Int32.ofNat i), .int (Int32.ofNat d), .ref 53]) (s' := T) rfl ?_
        refine yp_sn rfl rfl rfl (c_inH ?_)
        refine yp_vi rfl rfl rfl rfl (c_gset rfl ?_)
        refine yp_run 2 (pc' := 143) (lv' := [(0, .ref 52), (1, .int (Int32.ofNat d)), (2, .ref 25), (3, .int (Int32.ofNat i)), (4, .int ((itf (als n TR WG i) n (0, 0)).1)), (5, .int ((itf (als n TR WG i) n (0, 0)).2)), (6, .int (Int32.ofNat n))]) (st' := [.int 1, .int ((itf (als n TR WG i) n (0, 0)).2)]) (s' := (gset T 53 (Int32.ofNat d) (Int32.ofNat i) (2 * (((itf (als n TR WG i) n (0, 0)).1) + 1) + ((itf (als n TR WG i) n (0, 0)).2) - 1))) rfl ?_
        refine yp_icmp rfl rfl (fun h143 => ?_) (fun h143 => ?_)
        · refine yp_run 3 (pc' := 153) (lv' := [(0, .ref 52), (1, .int (Int32.ofNat d)), (2, .ref 25), (3, .int (Int32.ofNat i)), (4, .int ((itf (als n TR WG i) n (0, 0)).1)), (5, .int ((itf (als n TR WG i) n (0, 0)).2)), (6, .int (Int32.ofNat n))]) (st' := [.int (Int32.ofNat i), .int (Int32.ofNat d), .ref 52]) (s' := (gset T 53 (Int32.ofNat d) (Int32.ofNat i) (2 * (((itf (als n TR WG i) n (0, 0)).1) + 1) + ((itf (als n TR WG i) n (0, 0)).2) - 1))) rfl ?_
          have e7 : ∀ (k : Nat) (v : Int32), k ≠ 54 → gset T 53 (Int32.ofNat d) (Int32.ofNat i) v k = T k := fun k v a => by rw [gset_i (k := 53) (by show i < 8; omega) (by decide) (by show d * 8 + i < 40; omega)]; exact yup_ne a
          refine yp_vi rfl rfl rfl rfl (c_reas (TR := TR) (NB := NB) (WG := WG) (by decide) hn hd5 (by omega) (hT1 i (by omega)).1 (hT1 i (by omega)).2 ((congrFun (e7 _ _ (by decide)) _).trans hzT) (fun p a => (congrFun (e7 _ _ (by decide)) _).trans (hTRT p a)) (fun p q a b c => (congrFun (e7 _ _ (by decide)) _).trans (hWGT p q a b c)) (fun p q a b c => (congrFun (e7 _ _ (by decide)) _).trans (hNBT p q a b c)) ?_)
          refine yp_run 8 (pc' := 167) (lv' := [(0, .ref 52), (1, .int (Int32.ofNat d)), (2, .ref 25), (3, .int (Int32.ofNat i)), (4, .int ((itf (als n TR WG i) n (0, 0)).1)), (5, .int ((itf (als n TR WG i) n (0, 0)).2)), (6, .int (rea n TR NB WG i))]) (st' := [.int (Int32.ofNat d), .int (Int32.ofNat i), .ref 25, .int (Int32.ofNat i), .int (Int32.ofNat d), .ref 55]) (s' := (gset T 53 (Int32.ofNat d) (Int32.ofNat i) (2 * (((itf (als n TR WG i) n (0, 0)).1) + 1) + ((itf (als n TR WG i) n (0, 0)).2) - 1))) rfl ?_
          have h9 : rget (gset T 53 (Int32.ofNat d) (Int32.ofNat i) (2 * (((itf (als n TR WG i) n (0, 0)).1) + 1) + ((itf (als n TR WG i) n (0, 0)).2) - 1)) 28 (Int32.ofNat d) = 0 := by
            rw [gset_i (k := 53) (by show i < 8; omega) (by decide) (by show d * 8 + i < 40; omega)]
            exact (rget_i (by show d < 5; omega)).trans ((congrFun ((yup_ne (by decide)).trans (hk _ (by decide) (by decide))) d).trans h29)
          refine yp_vi rfl rfl rfl rfl (c_pen0 h9 ?_)
          refine yp_if rfl rfl (fun h170 => ?_) (fun h170 => ?_)
          · refine yp_run 1 (pc' := 179) (lv' := [(0, .ref 52), (1, .int (Int32.ofNat d)), (2, .ref 25), (3, .int (Int32.ofNat i)), (4, .int ((itf (als n TR WG i) n (0, 0)).1)), (5, .int ((itf (als n TR WG i) n (0, 0)).2)), (6, .int (rea n TR NB WG i))]) (st' := [.int (rea n TR NB WG i), .int (Int32.ofNat i), .int (Int32.ofNat d), .ref 55]) (s' := (gset T 53 (Int32.ofNat d) (Int32.ofNat i) (2 * (((itf (als n TR WG i) n (0, 0)).1) + 1) + ((itf (als n TR WG i) n (0, 0)).2) - 1))) rfl ?_
            refine yp_vi rfl rfl rfl rfl (c_gset rfl ?_)
            refine yp_run 2 (pc' := 50) (lv' := [(0, .ref 52), (1, .int (Int32.ofNat d)), (2, .ref 25), (3, .int ((Int32.ofNat i) + 1)), (4, .int ((itf (als n TR WG i) n (0, 0)).1)), (5, .int ((itf (als n TR WG i) n (0, 0)).2)), (6, .int (rea n TR NB WG i))]) (st' := []) (s' := (gset (gset T 53 (Int32.ofNat d) (Int32.ofNat i) (2 * (((itf (als n TR WG i) n (0, 0)).1) + 1) + ((itf (als n TR WG i) n (0, 0)).2) - 1)) 55 (Int32.ofNat d) (Int32.ofNat i) (rea n TR NB WG i))) rfl ?_
            have e8 := ih (i + 1) (by omega)
            have e1 : ∀ v : Int32, gset T 53 (Int32.ofNat d) (Int32.ofNat i) v = yup T 54 (d * 8 + i) v := fun v => gset_i (k := 53) (by show i < 8; omega) (by decide) (by show d * 8 + i < 40; omega)
            have e2 : ∀ (U : yS) (v : Int32), gset U 55 (Int32.ofNat d) (Int32.ofNat i) v = yup U 56 (d * 8 + i) v := fun U v => gset_i (k := 55) (by show i < 8; omega) (by decide) (by show d * 8 + i < 40; omega)
            rw [e1, e2, hT]
            have e9 := pbSt_s (s := s) (S := 52) (n := n) (d := d) (i := i) (TR := TR) (NB := NB) (WG := WG) rfl rfl
            rw [← e9] at e8
            have e10 : rsn n TR NB WG i = rea n TR NB WG i := by
              unfold rsn
              have h143 := h143
              unfold ahd
              rw [h143]
              rfl
            rw [e10] at e8
            rw [i32_s]
            refine yp_sel [0, 1, 2, 3] ?_
            exact e8
          · cases h170
        · refine yp_run 10 (pc' := 167) (lv' := [(0, .ref 52), (1, .int (Int32.ofNat d)), (2, .ref 25), (3, .int (Int32.ofNat i)), (4, .int ((itf (als n TR WG i) n (0, 0)).1)), (5, .int ((itf (als n TR WG i) n (0, 0)).2)), (6, .int 4)]) (st' := [.int (Int32.ofNat d), .int (Int32.ofNat i), .ref 25, .int (Int32.ofNat i), .int (Int32.ofNat d), .ref 55]) (s' := (gset T 53 (Int32.ofNat d) (Int32.ofNat i) (2 * (((itf (als n TR WG i) n (0, 0)).1) + 1) + ((itf (als n TR WG i) n (0, 0)).2) - 1))) rfl ?_
          have h9 : rget (gset T 53 (Int32.ofNat d) (Int32.ofNat i) (2 * (((itf (als n TR WG i) n (0, 0)).1) + 1) + ((itf (als n TR WG i) n (0, 0)).2) - 1)) 28 (Int32.ofNat d) = 0 := by
            rw [gset_i (k := 53) (by show i < 8; omega) (by decide) (by show d * 8 + i < 40; omega)]
            exact (rget_i (by show d < 5; omega)).trans ((congrFun ((yup_ne (by decide)).trans (hk _ (by decide) (by decide))) d).trans h29)
          refine yp_vi rfl rfl rfl rfl (c_pen0 h9 ?_)
          refine yp_if rfl rfl (fun h170 => ?_) (fun h170 => ?_)
          · refine yp_run 1 (pc' := 179) (lv' := [(0, .ref 52), (1, .int (Int32.ofNat d)), (2, .ref 25), (3, .int (Int32.ofNat i)), (4, .int ((itf (als n TR WG i) n (0, 0)).1)), (5, .int ((itf (als n TR WG i) n (0, 0)).2)), (6, .int 4)]) (st' := [.int 4, .int (Int32.ofNat i), .int (Int32.ofNat d), .ref 55]) (s' := (gset T 53 (Int32.ofNat d) (Int32.ofNat i) (2 * (((itf (als n TR WG i) n (0, 0)).1) + 1) + ((itf (als n TR WG i) n (0, 0)).2) - 1))) rfl ?_
            refine yp_vi rfl rfl rfl rfl (c_gset rfl ?_)
            refine yp_run 2 (pc' := 50) (lv' := [(0, .ref 52), (1, .int (Int32.ofNat d)), (2, .ref 25), (3, .int ((Int32.ofNat i) + 1)), (4, .int ((itf (als n TR WG i) n (0, 0)).1)), (5, .int ((itf (als n TR WG i) n (0, 0)).2)), (6, .int 4)]) (st' := []) (s' := (gset (gset T 53 (Int32.ofNat d) (Int32.ofNat i) (2 * (((itf (als n TR WG i) n (0, 0)).1) + 1) + ((itf (als n TR WG i) n (0, 0)).2) - 1)) 55 (Int32.ofNat d) (Int32.ofNat i) 4)) rfl ?_
            have e8 := ih (i + 1) (by omega)
            have e1 : ∀ v : Int32, gset T 53 (Int32.ofNat d) (Int32.ofNat i) v = yup T 54 (d * 8 + i) v := fun v => gset_i (k := 53) (by show i < 8; omega) (by decide) (by show d * 8 + i < 40; omega)
            have e2 : ∀ (U : yS) (v : Int32), gset U 55 (Int32.ofNat d) (Int32.ofNat i) v = yup U 56 (d * 8 + i) v := fun U v => gset_i (k := 55) (by show i < 8; omega) (by decide) (by show d * 8 + i < 40; omega)
            rw [e1, e2, hT]
            have e9 := pbSt_s (s := s) (S := 52) (n := n) (d := d) (i := i) (TR := TR) (NB := NB) (WG := WG) rfl rfl
            rw [← e9] at e8
            have e10 : rsn n TR NB WG i = 4 := by
              unfold rsn
              have h143 := h143
              unfold ahd
              rw [h143]
              rfl
            rw [e10] at e8
            rw [i32_s]
            refine yp_sel [0, 1, 2, 3] ?_
            exact e8
          · cases h170
end YS3
