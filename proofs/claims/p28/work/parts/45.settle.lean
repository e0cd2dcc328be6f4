/-! a score settled -/
section YX3
variable {sd : Option (List Int32)} {μ pc : Nat} {lv : xL} {st : List Value} {s : yS} {Φ : Option Value → yS → Prop}
def Cf (E : Nat → Nat → Nat → Int32) (d p q : Nat) : Int32 := cntJ E d p q 7
def SHf (E : Nat → Nat → Nat → Int32) (d : Nat) : Int32 := shsJ E d 7
def TRf (n : Nat) (E : Nat → Nat → Nat → Int32) (d : Nat) : Nat → Nat := tdf n (Cf E d) (SHf E d)
def PLf (n : Nat) (E : Nat → Nat → Nat → Int32) (d p : Nat) : Int32 := plc n (TRf n E d) (wdf n (Cf E d)) p
def RSf (n : Nat) (E : Nat → Nat → Nat → Int32) (d p : Nat) : Int32 := rsn n (TRf n E d) (ndf n (Cf E d)) (wdf n (Cf E d)) p
def TTf (n D : Nat) (E : Nat → Nat → Nat → Int32) : Nat → Int32 := tot D (PLf n E)
def WGf (E : Nat → Nat → Nat → Int32) (d p q : Nat) : Int32 := prw (Cf E d p) q
def PRf (n D : Nat) (E : Nat → Nat → Nat → Int32) : (Nat → Int32) × (Nat → Int32) := poR n D (TTf n D E) (PLf n E) (WGf E) n 1 ((1 <<< (Int32.ofNat n &&& 31)) - 1, 0) (fun _ => 0, fun _ => 0)
def EPf (n D : Nat) (E : Nat → Nat → Nat → Int32) : Nat → Int32 := (PRf n D E).1
def ERf (n D : Nat) (E : Nat → Nat → Nat → Int32) : Nat → Int32 := (PRf n D E).2
/-- the score is that of these marks -/
def stl (T : yS) (S n D : Nat) (E : Nat → Nat → Nat → Int32) : Prop :=
  T S 0 = Int32.ofNat n ∧ T S 1 = Int32.ofNat D ∧ (∀ d p, d < D → p < n → T (S + 2) (d * 8 + p) = PLf n E d p) ∧ (∀ d p, d < D → p < n → T (S + 4) (d * 8 + p) = RSf n E d p) ∧
  (∀ p, p < n → T (S + 6) p = TTf n D E p) ∧ (∀ p, p < n → T (S + 8) p = EPf n D E p) ∧ (∀ p, p < n → T (S + 10) p = ERf n D E p) ∧
  (∀ d p q, d < D → p < n → 1 ≤ q → q ≤ n → T (S + 13) ((d * 8 + p) * 9 + q) = pre (Cf E d p) q) ∧ (∀ R, R < 40 → T (S + 15) (R * 9 + (n + 1)) = 0)
theorem ct_none {s T : yS} {S n D j : Nat} {E : Nat → Nat → Nat → Int32} (hD : D ≤ 5) (hE : ∀ d, d < 5 → xcmp .eq (E j d 0) 0 = true) (h : ctInv s T S n D E (fun _ _ => j) (fun _ => j)) : ctInv s T S n D E (fun _ _ => j + 1) (fun _ => j + 1) :=
  ⟨h.1, fun x p q h1 h2 h3 => by rw [h.2.1 x p q h1 h2 h3, cntJ_0 (hE x (by omega))], fun x h1 => by rw [h.2.2 x h1, shsJ_0 (hE x (by omega))]⟩
def sdInv (X T : yS) (S n : Nat) (E : Nat → Nat → Nat → Int32) (d0 : Nat) : Prop :=
  (∀ k, k ≠ S + 2 → k ≠ S + 4 → k ≠ S + 13 → k ≠ S + 15 → k ≠ S + 19 → T k = X k) ∧ (∀ d p, d < d0 → p < n → T (S + 2) (d * 8 + p) = PLf n E d p) ∧ (∀ d p, d < d0 → p < n → T (S + 4) (d * 8 + p) = RSf n E d p) ∧
  (∀ d p q, d < d0 → p < n → 1 ≤ q → q ≤ n → T (S + 13) ((d * 8 + p) * 9 + q) = pre (Cf E d p) q) ∧ (∀ d p q, d < d0 → p < n → 1 ≤ q → q ≤ n → T (S + 15) ((d * 8 + p) * 9 + q) = WGf E d p q) ∧
  (∀ R q, d0 * 8 ≤ R → q < 9 → T (S + 13) (R * 9 + q) = X (S + 13) (R * 9 + q)) ∧ (∀ R q, d0 * 8 ≤ R ∨ n < q → q < 9 → T (S + 15) (R * 9 + q) = X (S + 15) (R * 9 + q))
theorem sdInv_0 (X : yS) (S n : Nat) (E : Nat → Nat → Nat → Int32) : sdInv X X S n E 0 :=
  ⟨fun _ _ _ _ _ _ => rfl, fun _ _ h => absurd h (Nat.not_lt_zero _), fun _ _ h => absurd h (Nat.not_lt_zero _), fun _ _ _ h => absurd h (Nat.not_lt_zero _), fun _ _ _ h => absurd h (Nat.not_lt_zero _), fun _ _ _ _ => rfl, fun _ _ _ _ => rfl⟩
theorem sdInv_s {X T U : yS} {S n d : Nat} {E : Nat → Nat → Nat → Int32} (hn : n ≤ 7) (h : sdInv X T S n E d) (hU : plInv T U S n d n (Cf E d) (TRf n E d)) : sdInv X (pbSt U S n d (TRf n E d) (ndf n (Cf E d)) (wdf n (Cf E d)) n) S n E (d + 1) := by
  obtain ⟨a1, a2, a3, a4, a5, a6, a7⟩ := h
  obtain ⟨b1, b2, b3, b4, b5, b6⟩ := hU
  refine ⟨fun k h1 h2 h3 h4 h5 => ?_, fun x p hx hp => ?_, fun x p hx hp => ?_, fun x p q hx hp h1 h2 => ?_, fun x p q hx hp h1 h2 => ?_, fun R q hR hq => ?_, fun R q hR hq => ?_⟩
  · rw [pbSt_ne h1 h2, b1 k h3 h4 h5, a1 k h1 h2 h3 h4 h5]
  · unfold pbSt
    rw [wr_ne (by omega)]
    by_cases hxd : x = d
    · subst hxd
      rw [wr_in (by omega) (by omega), show x * 8 + p - x * 8 = p by omega]
      rfl
    · rw [wr_out (by omega), b1 _ (by omega) (by omega) (by omega)]
      exact a2 x p (by omega) hp
  · unfold pbSt
    by_cases hxd : x = d
    · subst hxd
      rw [wr_in (by omega) (by omega), show x * 8 + p - x * 8 = p by omega]
      rfl
    · rw [wr_out (by omega), wr_ne (by omega), b1 _ (by omega) (by omega) (by omega)]
      exact a3 x p (by omega) hp
  · rw [pbSt_ne (by omega) (by omega)]
    by_cases hxd : x = d
    · subst hxd
      exact b2 p q hp h1 h2
    · rw [b5 (x * 8 + p) q (by omega) (by omega)]
      exact a4 x p q (by omega) hp h1 h2
  · rw [pbSt_ne (by omega) (by omega)]
    by_cases hxd : x = d
    · subst hxd
      exact b3 p q hp h1 h2
    · rw [b6 (x * 8 + p) q (by omega) (by omega)]
      exact a5 x p q (by omega) hp h1 h2
  · rw [pbSt_ne (by omega) (by omega), b5 R q hq (by omega)]
    exact a6 R q (by omega) hq
  · rw [pbSt_ne (by omega) (by omega), b6 R q hq (by omega)]
    exact a7 R q (by omega) hq
theorem lz_se {X : yS} {S n D : Nat} {w : Int32} {E : Nat → Nat → Nat → Int32} (hS : yss S) (hn : n ≤ 7) (hD : D ≤ 5) (x0 : X S 0 = Int32.ofNat n) (x1 : X S 1 = Int32.ofNat D) (hE : ∀ j d p, j < 7 → d < 5 → p < 8 → E j d p = bif xcmp .ne (hd w (Int32.ofNat j)) 0 then 0 else X 27 ((j * 5 + d) * 8 + p)) : ∀ (m j : Nat) (T : yS), j + m = 7 → ctInv X T S n D E (fun _ _ => j) (fun _ => j) →
    (∀ T' : yS, ctInv X T' S n D E (fun _ _ => 7) (fun _ => 7) → Yp sd 8 63 [(0, .ref S), (1, .ref 25), (2, .int w), (3, .int (Int32.ofNat 7))] [] T' Φ) → Yp sd 8 37 [(0, .ref S), (1, .ref 25), (2, .int w), (3, .int (Int32.ofNat j))] [] T Φ := by
  rcases hS with rfl | rfl
  · intro m
    induction m with
    | zero =>
      intro j T hj hI kk
      refine yp_run 2 (pc' := 40) (lv' := [(0, .ref 30), (1, .ref 25), (2, .int w), (3, .int (Int32.ofNat j))]) (st' := [.int 7, .int (Int32.ofNat j)]) (s' := T) rfl ?_
      refine yp_icmp rfl rfl (fun h => ?_) (fun h => ?_)
      · rw [show j = 7 by omega] at hI ⊢
        exact kk T hI
      · have h := xN (xc_ge _ _) h
        rw [show (7 : Int32).toInt = 7 from rfl, i32_to (by omega)] at h
        omega
    | succ m ih =>
      intro j T hj hI kk
      refine yp_run 2 (pc' := 40) (lv' := [(0, .ref 30), (1, .ref 25), (2, .int w), (3, .int (Int32.ofNat j))]) (st' := [.int 7, .int (Int32.ofNat j)]) (s' := T) rfl ?_
      refine yp_icmp rfl rfl (fun h => ?_) (fun h => ?_)
      · have h := xT (xc_ge _ _) h
        rw [show (7 : Int32).toInt = 7 from rfl, i32_to (by omega)] at h
        omega
      · refine yp_run 2 (pc' := 45) (lv' := [(0, .ref 30), (1, .ref 25), (2, .int w), (3, .int (Int32.ofNat j))]) (st' := [.int (Int32.ofNat j), .int w]) (s' := T) rfl ?_
        refine yp_sn rfl rfl rfl (c_hold ?_)
        refine yp_if rfl rfl (fun h48 => ?_) (fun h48 => ?_)
        · refine yp_run 2 (pc' := 37) (lv' := [(0, .ref 30), (1, .ref 25), (2, .int w), (3, .int ((Int32.ofNat j) + 1))]) (st' := []) (s' := T) rfl ?_
          rw [i32_s]
          exact ih (j + 1) T (by omega) (ct_none hD (fun d h1 => by rw [hE j d 0 (by omega) h1 (by omega), h48]; rfl) hI) kk
        · refine yp_run 3 (pc' := 54) (lv' := [(0, .ref 30), (1, .ref 25), (2, .int w), (3, .int (Int32.ofNat j))]) (st' := [.ref 25, .int (Int32.ofNat j), .ref 30]) (s' := T) rfl ?_
          refine yp_vi rfl rfl rfl rfl (c_cntM (s := X) (E := E) (by decide) hn hD (by omega) x0 x1 (fun d p h1 h2 => by rw [hE j d p (by omega) h1 h2, h48]; rfl) hI (fun T9 hI9 => ?_))
          refine yp_run 2 (pc' := 37) (lv' := [(0, .ref 30), (1, .ref 25), (2, .int w), (3, .int ((Int32.ofNat j) + 1))]) (st' := []) (s' := T9) rfl ?_
          rw [i32_s]
          exact ih (j + 1) T9 (by omega) hI9 kk
  · intro m
    induction m with
    | zero =>
      intro j T hj hI kk
      refine yp_run 2 (pc' := 40) (lv' := [(0, .ref 52), (1, .ref 25), (2, .int w), (3, .int (Int32.ofNat j))]) (st' := [.int 7, .int (Int32.ofNat j)]) (s' := T) rfl ?_
      refine yp_icmp rfl rfl (fun h => ?_) (fun h => ?_)
      · rw [show j = 7 by omega] at hI ⊢
        exact kk T hI
      · have h := xN (xc_ge _ _) h
        rw [show (7 : Int32).toInt = 7 from rfl, i32_to (by omega)] at h
        omega
    | succ m ih =>
      intro j T hj hI kk
      refine yp_run 2 (pc' := 40) (lv' := [(0, .ref 52), (1, .ref 25), (2, .int w), (3, .int (Int32.ofNat j))]) (st' := [.int 7, .int (Int32.ofNat j)]) (s' := T) rfl ?_
      refine yp_icmp rfl rfl (fun h => ?_) (fun h => ?_)
      · have h := xT (xc_ge _ _) h
        rw [show (7 : Int32).toInt = 7 from rfl, i32_to (by omega)] at h
        omega
      · refine yp_run 2 (pc' := 45) (lv' := [(0, .ref 52), (1, .ref 25), (2, .int w), (3, .int (Int32.ofNat j))]) (st' := [.int (Int32.ofNat j), .int w]) (s' := T) rfl ?_
        refine yp_sn rfl rfl rfl (c_hold ?_)
        refine yp_if rfl rfl (fun h48 => ?_) (fun h48 => ?_)
        · refine yp_run 2 (pc' := 37) (lv' := [(0, .ref 52), (1, .ref 25), (2, .int w), (3, .int ((Int32.ofNat j) + 1))]) (st' := []) (s' := T) rfl ?_
          rw [i32_s]
          exact ih (j + 1) T (by omega) (ct_none hD (fun d h1 => by rw [hE j d 0 (by omega) h1 (by omega), h48]; rfl) hI) kk
        · refine yp_run 3 (pc' := 54) (lv' := [(0, .ref 52), (1, .ref 25), (2, .int w), (3, .int (Int32.ofNat j))]) (st' := [.ref 25, .int (Int32.ofNat j), .ref 52]) (s' := T) rfl ?_
          refine yp_vi rfl rfl rfl rfl (c_cntM (s := X) (E := E) (by decide) hn hD (by omega) x0 x1 (fun d p h1 h2 => by rw [hE j d p (by omega) h1 h2, h48]; rfl) hI (fun T9 hI9 => ?_))
          refine yp_run 2 (pc' := 37) (lv' := [(0, .ref 52), (1, .ref 25), (2, .int w), (3, .int ((Int32.ofNat j) + 1))]) (st' := []) (s' := T9) rfl ?_
          rw [i32_s]
          exact ih (j + 1) T9 (by omega) hI9 kk
theorem lz_sd {X : yS} {S n D : Nat} {w : Int32} {E : Nat → Nat → Nat → Int32} (hS : yss S) (hn : n ≤ 7) (hD : D ≤ 5) (x0 : X S 0 = Int32.ofNat n) (x1 : X S 1 = Int32.ofNat D) (xw : X (S + 11) 0 = Int32.ofNat n) (xc : ∀ d p q, d < D → p < n → q < 9 → X (S + 13) ((d * 8 + p) * 9 + q) = Cf E d p q) (xs : ∀ d, d < D → X (S + 17) d = SHf E d) (x9 : ∀ d, d < 5 → X 29 d = 0) (xW : ∀ R, R < 40 → X (S + 15) (R * 9 + (n + 1)) = 0) : ∀ (m d : Nat) (T : yS), d + m = D → sdInv X T S n E d →
    (∀ T' : yS, sdInv X T' S n E D → Yp sd 8 85 [(0, .ref S), (1, .ref 25), (2, .int w), (3, .int (Int32.ofNat D))] [] T' Φ) → Yp sd 8 65 [(0, .ref S), (1, .ref 25), (2, .int w), (3, .int (Int32.ofNat d))] [] T Φ := by
  rcases hS with rfl | rfl
  · have x1 : X 30 1 = Int32.ofNat D := x1
    intro m
    induction m with
    | zero =>
      intro d T hd5 hI kk
      have fr := hI.1
      have hDT : T 30 1 = Int32.ofNat D := (congrFun (fr _ (by decide) (by decide) (by decide) (by decide) (by decide)) 1).trans x1
      refine yp_run 3 (pc' := 70) (lv' := [(0, .ref 30), (1, .ref 25), (2, .int w), (3, .int (Int32.ofNat d))]) (st' := [.int (T 30 1), .int (Int32.ofNat d)]) (s' := T) rfl ?_
      refine yp_icmp rfl rfl (fun h => ?_) (fun h => ?_)
      · rw [show d = D by omega] at hI ⊢
        exact kk T hI
      · have h := xN (xc_ge _ _) h
        rw [hDT, i32_to (by omega), i32_to (by omega)] at h
        omega
    | succ m ih =>
      intro d T hd5 hI kk
      have fr := hI.1
      have hDT : T 30 1 = Int32.ofNat D := (congrFun (fr _ (by decide) (by decide) (by decide) (by decide) (by decide)) 1).trans x1
      refine yp_run 3 (pc' := 70) (lv' := [(0, .ref 30), (1, .ref 25), (2, .int w), (3, .int (Int32.ofNat d))]) (st' := [.int (T 30 1), .int (Int32.ofNat d)]) (s' := T) rfl ?_
      refine yp_icmp rfl rfl (fun h => ?_) (fun h => ?_)
      · have h := xT (xc_ge _ _) h
        rw [hDT, i32_to (by omega), i32_to (by omega)] at h
        omega
      · refine yp_run 3 (pc' := 76) (lv' := [(0, .ref 30), (1, .ref 25), (2, .int w), (3, .int (Int32.ofNat d))]) (st' := [.ref 25, .int (Int32.ofNat d), .ref 30]) (s' := T) rfl ?_
        refine yp_vi rfl rfl rfl rfl (c_plcD (C := Cf E d) (SH := SHf E d) (by decide) hn (by omega) ((congrFun (fr _ (by decide) (by decide) (by decide) (by decide) (by decide)) 0).trans x0) ((congrFun (fr _ (by decide) (by decide) (by decide) (by decide) (by decide)) 0).trans xw) (fun p q h1 h2 h3 => (hI.2.2.2.2.2.1 (d * 8 + p) q (by omega) (by omega)).trans (xc d p q (by omega) h1 (by omega))) (fun p h1 => (hI.2.2.2.2.2.2 (d * 8 + p) (n + 1) (by omega) (by omega)).trans (xW (d * 8 + p) (by omega))) ((congrFun (fr _ (by decide) (by decide) (by decide) (by decide) (by decide)) d).trans (xs d (by omega))) ((congrFun (fr _ (by decide) (by decide) (by decide) (by decide) (by decide)) d).trans (x9 d (by omega))) (fun U hU => ?_))
        have hI9 := sdInv_s hn hI hU
        obtain ⟨T9, h9⟩ : ∃ Y, Y = pbSt U 30 n d (TRf n E d) (ndf n (Cf E d)) (wdf n (Cf E d)) n := ⟨_, rfl⟩
        rw [← h9] at hI9
        show ybk sd 8 79 _ [] Φ none (pbSt U 30 n d (TRf n E d) (ndf n (Cf E d)) (wdf n (Cf E d)) n)
        rw [← h9]
        refine yp_run 2 (pc' := 65) (lv' := [(0, .ref 30), (1, .ref 25), (2, .int w), (3, .int ((Int32.ofNat d) + 1))]) (st' := []) (s' := T9) rfl ?_
        rw [i32_s]
        exact ih (d + 1) T9 (by omega) hI9 kk
  · have x1 : X 52 1 = Int32.ofNat D := x1
    intro m
    induction m with
    | zero =>
      intro d T hd5 hI kk
      have fr := hI.1
      have hDT : T 52 1 = Int32.ofNat D := (congrFun (fr _ (by decide) (by decide) (by decide) (by decide) (by decide)) 1).trans x1
      refine yp_run 3 (pc' := 70) (lv' := [(0, .ref 52), (1, .ref 25), (2, .int w), (3, .int (Int32.ofNat d))]) (st' := [.int (T 52 1), .int (Int32.ofNat d)]) (s' := T) rfl ?_
      refine yp_icmp rfl rfl (fun h => ?_) (fun h => ?_)
      · rw [show d = D by omega] at hI ⊢
        exact kk T hI
      · have h := xN (xc_ge _ _) h
        rw [hDT, i32_to (by omega), i32_to (by omega)] at h
        omega
    | succ m ih =>
      intro d T hd5 hI kk
      have fr := hI.1
      have hDT : T 52 1 = Int32.ofNat D := (congrFun (fr _ (by decide) (by decide) (by decide) (by decide) (by decide)) 1).trans x1
      refine yp_run 3 (pc' := 70) (lv' := [(0, .ref 52), (1, .ref 25), (2, .int w), (3, .int (Int32.ofNat d))]) (st' := [.int (T 52 1), .int (Int32.ofNat d)]) (s' := T) rfl ?_
      refine yp_icmp rfl rfl (fun h => ?_) (fun h => ?_)
      · have h := xT (xc_ge _ _) h
        rw [hDT, i32_to (by omega), i32_to (by omega)] at h
        omega
      · refine yp_run 3 (pc' := 76) (lv' := [(0, .ref 52), (1, .ref 25), (2, .int w), (3, .int (Int32.ofNat d))]) (st' := [.ref 25, .int (Int32.ofNat d), .ref 52]) (s' := T) rfl ?_
        refine yp_vi rfl rfl rfl rfl (c_plcD (C := Cf E d) (SH := SHf E d) (by decide) hn (by omega) ((congrFun (fr _ (by decide) (by decide) (by decide) (by decide) (by decide)) 0).trans x0) ((congrFun (fr _ (by decide) (by decide) (by decide) (by decide) (by decide)) 0).trans xw) (fun p q h1 h2 h3 => (hI.2.2.2.2.2.1 (d * 8 + p) q (by omega) (by omega)).trans (xc d p q (by omega) h1 (by omega))) (fun p h1 => (hI.2.2.2.2.2.2 (d * 8 + p) (n + 1) (by omega) (by omega)).trans (xW (d * 8 + p) (by omega))) ((congrFun (fr _ (by decide) (by decide) (by decide) (by decide) (by decide)) d).trans (xs d (by omega))) ((congrFun (fr _ (by decide) (by decide) (by decide) (by decide) (by decide)) d).trans (x9 d (by omega))) (fun U hU => ?_))
        have hI9 := sdInv_s hn hI hU
        obtain ⟨T9, h9⟩ : ∃ Y, Y = pbSt U 52 n d (TRf n E d) (ndf n (Cf E d)) (wdf n (Cf E d)) n := ⟨_, rfl⟩
        rw [← h9] at hI9
        show ybk sd 8 79 _ [] Φ none (pbSt U 52 n d (TRf n E d) (ndf n (Cf E d)) (wdf n (Cf E d)) n)
        rw [← h9]
        refine yp_run 2 (pc' := 65) (lv' := [(0, .ref 52), (1, .ref 25), (2, .int w), (3, .int ((Int32.ofNat d) + 1))]) (st' := []) (s' := T9) rfl ?_
        rw [i32_s]
        exact ih (d + 1) T9 (by omega) hI9 kk
set_option maxHeartbeats 1000000 in
theorem c_settle {S n D : Nat} {w : Int32} {E : Nat → Nat → Nat → Int32} (hS : yss S) (hn : n ≤ 7) (hD : D ≤ 5) (h25 : s 25 0 = Int32.ofNat n) (h26 : s 25 1 = Int32.ofNat D) (h29 : ∀ d, d < 5 → s 29 d = 0) (hW : ∀ R, R < 40 → s (S + 15) (R * 9 + (n + 1)) = 0)
    (hE : ∀ j d p, j < 7 → d < 5 → p < 8 → E j d p = bif xcmp .ne (hd w (Int32.ofNat j)) 0 then 0 else s 27 ((j * 5 + d) * 8 + p))
    (kk : ∀ T : yS, (∀ k, (k < S ∨ S + 22 ≤ k) → T k = s k) → stl T S n D E → Φ none T) : Yq sd 8 [.ref S, .ref 25, .int w] s Φ := by
  refine Yq.of rfl (Nat.le_of_ble_eq_true rfl) ?_
  rcases hS with rfl | rfl
  · have hW : ∀ R, R < 40 → s 45 (R * 9 + (n + 1)) = 0 := hW
    refine yp_run 12 (pc' := 24) (lv' := [(0, .ref 30), (1, .ref 25), (2, .int w)]) (st' := [.int (s 25 0), .ref 41]) (s' := (yup (yup s 30 0 (s 25 0)) 30 1 (s 25 1))) rfl ?_
    refine yp_vi rfl rfl rfl rfl (c_tclear (by decide) ?_)
    refine yp_run 3 (pc' := 32) (lv' := [(0, .ref 30), (1, .ref 25), (2, .int w)]) (st' := [.int 0, .ref 46]) (s' := (rfill (yup (yup (yup s 30 0 (s 25 0)) 30 1 (s 25 1)) 41 0 (s 25 0)) 42 360 0)) rfl ?_
    refine yp_vi rfl rfl rfl rfl (c_rfill rfl ?_)
    refine yp_run 2 (pc' := 37) (lv' := [(0, .ref 30), (1, .ref 25), (2, .int w), (3, .int 0)]) (st' := []) (s' := (rfill (rfill (yup (yup (yup s 30 0 (s 25 0)) 30 1 (s 25 1)) 41 0 (s 25 0)) 42 360 0) 46 5 0)) rfl ?_
    obtain ⟨X, hX⟩ : ∃ X, X = (rfill (rfill (yup (yup (yup s 30 0 (s 25 0)) 30 1 (s 25 1)) 41 0 (s 25 0)) 42 360 0) 46 5 0) := ⟨_, rfl⟩
    rw [← hX]
    have x0 : X 30 0 = Int32.ofNat n := by rw [hX]; exact h25
    have x1 : X 30 1 = Int32.ofNat D := by rw [hX]; exact h26
    have xw : X 41 0 = Int32.ofNat n := by rw [hX]; exact h25
    have xc : ∀ j, j < 360 → X 43 j = 0 := fun j hj => by rw [hX]; exact (if_neg (fun q => absurd q.1 (by decide))).trans (if_pos ⟨rfl, hj⟩)
    have xs : ∀ j, j < 5 → X 47 j = 0 := fun j hj => by rw [hX]; exact if_pos ⟨rfl, hj⟩
    have xf : ∀ k, k ≠ 30 → k ≠ 41 → k ≠ 43 → k ≠ 47 → X k = s k := fun k a b c d => by
      rw [hX]
      funext j
      refine (if_neg (fun q => d q.1)).trans ((if_neg (fun q => c q.1)).trans ((if_neg (fun q => b q.1)).trans ((if_neg (fun q => a q.1)).trans (if_neg (fun q => a q.1)))))
    refine lz_se (X := X) (E := E) (by decide) hn hD x0 x1 (fun j d p h1 h2 h3 => by rw [xf 27 (by decide) (by decide) (by decide) (by decide)]; exact hE j d p h1 h2 h3) 7 0 X (Nat.zero_add 7) ⟨fun _ _ _ => rfl, fun d p q h1 h2 h3 => xc _ (by omega), fun d h1 => xs d (by omega)⟩ (fun Y hY => ?_)
    have fY := hY.1
    refine yp_run 2 (pc' := 65) (lv' := [(0, .ref 30), (1, .ref 25), (2, .int w), (3, .int 0)]) (st' := []) (s' := Y) rfl ?_
    refine lz_sd (X := Y) (E := E) (by decide) hn hD ((congrFun (fY _ (by decide) (by decide)) 0).trans x0) ((congrFun (fY _ (by decide) (by decide)) 1).trans x1) ((congrFun (fY _ (by decide) (by decide)) 0).trans xw) (fun d p q h1 h2 h3 => hY.2.1 d p q h1 h2 h3) (fun d h1 => hY.2.2 d h1) (fun d h1 => (congrFun ((fY 29 (by decide) (by decide)).trans (xf 29 (by decide) (by decide) (by decide) (by decide))) d).trans (h29 d h1)) (fun R h1 => (congrFun ((fY 45 (by decide) (by decide)).trans (xf 45 (by decide) (by decide) (by decide) (by decide))) _).trans (hW R h1)) D 0 Y (Nat.zero_add D) (sdInv_0 _ _ _ _) (fun Z hZ => ?_)
    have fZ := hZ.1
    have z0 : Z 30 0 = Int32.ofNat n := (congrFun ((fZ _ (by decide) (by decide) (by decide) (by decide) (by decide)).trans (fY _ (by decide) (by decide))) 0).trans x0
    have z1 : Z 30 1 = Int32.ofNat D := (congrFun ((fZ _ (by decide) (by decide) (by decide) (by decide) (by decide)).trans (fY _ (by decide) (by decide))) 1).trans x1
    refine yp_run 1 (pc' := 86) (lv' := [(0, .ref 30), (1, .ref 25), (2, .int w), (3, .int (Int32.ofNat D))]) (st' := [.ref 30]) (s' := Z) rfl ?_
    refine yp_vi rfl rfl rfl rfl (c_addp (PL := PLf n E) (by decide) (by omega) hD z0 z1 hZ.2.1 ?_)
    obtain ⟨V, hV⟩ : ∃ V, V = wr Z 36 0 n (tot D (PLf n E)) := ⟨_, rfl⟩
    show ybk sd 8 89 _ [] Φ none (wr Z 36 0 n (tot D (PLf n E)))
    rw [← hV]
    have fV : ∀ k, k ≠ 36 → V k = Z k := fun k q => by rw [hV]; exact wr_ne q
    refine yp_run 1 (pc' := 90) (lv' := [(0, .ref 30), (1, .ref 25), (2, .int w), (3, .int (Int32.ofNat D))]) (st' := [.ref 30]) (s' := V) rfl ?_
    refine yp_vi rfl rfl rfl rfl (c_over (TT := TTf n D E) (PL := PLf n E) (WG := WGf E) (by decide) (by omega) hD ((congrFun (fV _ (by decide)) 0).trans z0) ((congrFun (fV _ (by decide)) 1).trans z1) (fun p hp => by rw [hV]; exact wr_in (Nat.zero_le _) hp) (fun d p h1 h2 => (congrFun (fV _ (by decide)) _).trans (hZ.2.1 d p h1 h2)) (fun d p q h1 h2 h3 h4 => (congrFun (fV _ (by decide)) _).trans (hZ.2.2.2.2.1 d p q h1 h2 h3 h4)) (fun T fT gE gR => ?_))
    refine yp_rv rfl rfl ?_
    have cov := fun e e9 (h : ∀ p, p < n → ¬ hds ((1 <<< (Int32.ofNat n &&& 31)) - 1) (Int32.ofNat p) → e.1 p = e9.1 p ∧ e.2 p = e9.2 p) => poR_cov (n := n) (D := D) (TT := TTf n D E) (PL := PLf n E) (WG := WGf E) (by omega) n 1 ((1 <<< (Int32.ofNat n &&& 31)) - 1) 0 e e9 (crd_le _ n) h
    have cov2 := cov (V 38, V 40) (fun _ => 0, fun _ => 0) (fun p hp h => absurd ((hds_all (by omega) (by omega)).mpr hp) h)
    have up : ∀ k, k ≠ 38 → k ≠ 40 → k ≠ 51 → k ≠ 36 → T k = Z k := fun k a b c d => (fT k a b c).trans (fV k d)
    refine kk T (fun k hk => ?_) ⟨?_, ?_, fun d p h1 h2 => ?_, fun d p h1 h2 => ?_, fun p h1 => ?_, fun p h1 => ?_, fun p h1 => ?_, fun d p q h1 h2 h3 h4 => ?_, fun R h1 => ?_⟩
    · rw [up k (by omega) (by omega) (by omega) (by omega), fZ k (by omega) (by omega) (by omega) (by omega) (by omega), fY k (by omega) (by omega), xf k (by omega) (by omega) (by omega) (by omega)]
    · exact (congrFun (up _ (by decide) (by decide) (by decide) (by decide)) _).trans z0
    · exact (congrFun (up _ (by decide) (by decide) (by decide) (by decide)) _).trans z1
    · exact (congrFun (up _ (by decide) (by decide) (by decide) (by decide)) _).trans (hZ.2.1 d p h1 h2)
    · exact (congrFun (up _ (by decide) (by decide) (by decide) (by decide)) _).trans (hZ.2.2.1 d p h1 h2)
    · refine (congrFun (fT _ (by decide) (by decide) (by decide)) _).trans ?_
      rw [hV]
      exact wr_in (Nat.zero_le _) h1
    · exact (gE p h1).trans (cov2 p h1).1
    · exact (gR p h1).trans (cov2 p h1).2
    · exact (congrFun (up _ (by decide) (by decide) (by decide) (by decide)) _).trans (hZ.2.2.2.1 d p q h1 h2 h3 h4)
    · exact (congrFun (up _ (by decide) (by decide) (by decide) (by decide)) _).trans ((hZ.2.2.2.2.2.2 R (n + 1) (by omega) (by omega)).trans ((congrFun ((fY 45 (by decide) (by decide)).trans (xf 45 (by decide) (by decide) (by decide) (by decide))) _).trans (hW R h1)))
  · have hW : ∀ R, R < 40 → s 67 (R * 9 + (n + 1)) = 0 := hW
    refine yp_run 12 (pc' := 24) (lv' := [(0, .ref 52), (1, .ref 25), (2, .int w)]) (st' := [.int (s 25 0), .ref 63]) (s' := (yup (yup s 52 0 (s 25 0)) 52 1 (s 25 1))) rfl ?_
    refine yp_vi rfl rfl rfl rfl (c_tclear (by decide) ?_)
    refine yp_run 3 (pc' := 32) (lv' := [(0, .ref 52), (1, .ref 25), (2, .int w)]) (st' := [.int 0, .ref 68]) (s' := (rfill (yup (yup (yup s 52 0 (s 25 0)) 52 1 (s 25 1)) 63 0 (s 25 0)) 64 360 0)) rfl ?_
    refine yp_vi rfl rfl rfl rfl (c_rfill rfl ?_)
    refine yp_run 2 (pc' := 37) (lv' := [(0, .ref 52), (1, .ref 25), (2, .int w), (3, .int 0)]) (st' := []) (s' := (rfill (rfill (yup (yup (yup s 52 0 (s 25 0)) 52 1 (s 25 1)) 63 0 (s 25 0)) 64 360 0) 68 5 0)) rfl ?_
    obtain ⟨X, hX⟩ : ∃ X, X = (rfill (rfill (yup (yup (yup s 52 0 (s 25 0)) 52 1 (s 25 1)) 63 0 (s 25 0)) 64 360 0) 68 5 0) := ⟨_, rfl⟩
    rw [← hX]
    have x0 : X 52 0 = Int32.ofNat n := by rw [hX]; exact h25
    have x1 : X 52 1 = Int32.ofNat D := by rw [hX]; exact h26
    have xw : X 63 0 = Int32.ofNat n := by rw [hX]; exact h25
    have xc : ∀ j, j < 360 → X 65 j = 0 := fun j hj => by rw [hX]; exact (if_neg (fun q => absurd q.1 (by decide))).trans (if_pos ⟨rfl, hj⟩)
    have xs : ∀ j, j < 5 → X 69 j = 0 := fun j hj => by rw [hX]; exact if_pos ⟨rfl, hj⟩
    have xf : ∀ k, k ≠ 52 → k ≠ 63 → k ≠ 65 → k ≠ 69 → X k = s k := fun k a b c d => by
      rw [hX]
      funext j
      refine (if_neg (fun q => d q.1)).trans ((if_neg (fun q => c q.1)).trans ((if_neg (fun q => b q.1)).trans ((if_neg (fun q => a q.1)).trans (if_neg (fun q => a q.1)))))
    refine lz_se (X := X) (E := E) (by decide) hn hD x0 x1 (fun j d p h1 h2 h3 => by rw [xf 27 (by decide) (by decide) (by decide) (by decide)]; exact hE j d p h1 h2 h3) 7 0 X (Nat.zero_add 7) ⟨fun _ _ _ => rfl, fun d p q h1 h2 h3 => xc _ (by omega), fun d h1 => xs d (by omega)⟩ (fun Y hY => ?_)
    have fY := hY.1
    refine yp_run 2 (pc' := 65) (lv' := [(0, .ref 52), (1, .ref 25), (2, .int w), (3, .int 0)]) (st' := []) (s' := Y) rfl ?_
    refine lz_sd (X := Y) (E := E) (by decide) hn hD ((congrFun (fY _ (by decide) (by decide)) 0).trans x0) ((congrFun (fY _ (by decide) (by decide)) 1).trans x1) ((congrFun (fY _ (by decide) (by decide)) 0).trans xw) (fun d p q h1 h2 h3 => hY.2.1 d p q h1 h2 h3) (fun d h1 => hY.2.2 d h1) (fun d h1 => (congrFun ((fY 29 (by decide) (by decide)).trans (xf 29 (by decide) (by decide) (by decide) (by decide))) d).trans (h29 d h1)) (fun R h1 => (congrFun ((fY 67 (by decide) (by decide)).trans (xf 67 (by decide) (by decide) (by decide) (by decide))) _).trans (hW R h1)) D 0 Y (Nat.zero_add D) (sdInv_0 _ _ _ _) (fun Z hZ => ?_)
    have fZ := hZ.1
    have z0 : Z 52 0 = Int32.ofNat n := (congrFun ((fZ _ (by decide) (by decide) (by decide) (by decide) (by decide)).trans (fY _ (by decide) (by decide))) 0).trans x0
    have z1 : Z 52 1 = Int32.ofNat D := (congrFun ((fZ _ (by decide) (by decide) (by decide) (by decide) (by decide)).trans (fY _ (by decide) (by decide))) 1).trans x1
    refine yp_run 1 (pc' := 86) (lv' := [(0, .ref 52), (1, .ref 25), (2, .int w), (3, .int (Int32.ofNat D))]) (st' := [.ref 52]) (s' := Z) rfl ?_
    refine yp_vi rfl rfl rfl rfl (c_addp (PL := PLf n E) (by decide) (by omega) hD z0 z1 hZ.2.1 ?_)
    obtain ⟨V, hV⟩ : ∃ V, V = wr Z 58 0 n (tot D (PLf n E)) := ⟨_, rfl⟩
    show ybk sd 8 89 _ [] Φ none (wr Z 58 0 n (tot D (PLf n E)))
    rw [← hV]
    have fV : ∀ k, k ≠ 58 → V k = Z k := fun k q => by rw [hV]; exact wr_ne q
    refine yp_run 1 (pc' := 90) (lv' := [(0, .ref 52), (1, .ref 25), (2, .int w), (3, .int (Int32.ofNat D))]) (st' := [.ref 52]) (s' := V) rfl ?_
    refine yp_vi rfl rfl rfl rfl (c_over (TT := TTf n D E) (PL := PLf n E) (WG := WGf E) (by decide) (by omega) hD ((congrFun (fV _ (by decide)) 0).trans z0) ((congrFun (fV _ (by decide)) 1).trans z1) (fun p hp => by rw [hV]; exact wr_in (Nat.zero_le _) hp) (fun d p h1 h2 => (congrFun (fV _ (by decide)) _).trans (hZ.2.1 d p h1 h2)) (fun d p q h1 h2 h3 h4 => (congrFun (fV _ (by decide)) _).trans (hZ.2.2.2.2.1 d p q h1 h2 h3 h4)) (fun T fT gE gR => ?_))
    refine yp_rv rfl rfl ?_
    have cov := fun e e9 (h : ∀ p, p < n → ¬ hds ((1 <<< (Int32.ofNat n &&& 31)) - 1) (Int32.ofNat p) → e.1 p = e9.1 p ∧ e.2 p = e9.2 p) => poR_cov (n := n) (D := D) (TT := TTf n D E) (PL := PLf n E) (WG := WGf E) (by omega) n 1 ((1 <<< (Int32.ofNat n &&& 31)) - 1) 0 e e9 (crd_le _ n) h
    have cov2 := cov (V 60, V 62) (fun _ => 0, fun _ => 0) (fun p hp h => absurd ((hds_all (by omega) (by omega)).mpr hp) h)
    have up : ∀ k, k ≠ 60 → k ≠ 62 → k ≠ 73 → k ≠ 58 → T k = Z k := fun k a b c d => (fT k a b c).trans (fV k d)
    refine kk T (fun k hk => ?_) ⟨?_, ?_, fun d p h1 h2 => ?_, fun d p h1 h2 => ?_, fun p h1 => ?_, fun p h1 => ?_, fun p h1 => ?_, fun d p q h1 h2 h3 h4 => ?_, fun R h1 => ?_⟩
    · rw [up k (by omega) (by omega) (by omega) (by omega), fZ k (by omega) (by omega) (by omega) (by omega) (by omega), fY k (by omega) (by omega), xf k (by omega) (by omega) (by omega) (by omega)]
    · exact (congrFun (up _ (by decide) (by decide) (by decide) (by decide)) _).trans z0
    · exact (congrFun (up _ (by decide) (by decide) (by decide) (by decide)) _).trans z1
    · exact (congrFun (up _ (by decide) (by decide) (by decide) (by decide)) _).trans (hZ.2.1 d p h1 h2)
    · exact (congrFun (up _ (by decide) (by decide) (by decide) (by decide)) _).trans (hZ.2.2.1 d p h1 h2)
    · refine (congrFun (fT _ (by decide) (by decide) (by decide)) _).trans ?_
      rw [hV]
      exact wr_in (Nat.zero_le _) h1
    · exact (gE p h1).trans (cov2 p h1).1
    · exact (gR p h1).trans (cov2 p h1).2
    · exact (congrFun (up _ (by decide) (by decide) (by decide) (by decide)) _).trans (hZ.2.2.2.1 d p q h1 h2 h3 h4)
    · exact (congrFun (up _ (by decide) (by decide) (by decide) (by decide)) _).trans ((hZ.2.2.2.2.2.2 R (n + 1) (by omega) (by omega)).trans ((congrFun ((fY 67 (by decide) (by decide)).trans (xf 67 (by decide) (by decide) (by decide) (by decide))) _).trans (hW R h1)))
end YX3
