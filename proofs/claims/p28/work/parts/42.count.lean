/-! a dance placed; marks counted -/
section YT3
variable {sd : Option (List Int32)} {μ pc : Nat} {lv : xL} {st : List Value} {s : yS} {Φ : Option Value → yS → Prop}
def ndf (n : Nat) (C : Nat → Nat → Int32) (p q : Nat) : Int32 := bif Nat.ble q n then pre (C p) q else C p q
def wdf (n : Nat) (C : Nat → Nat → Int32) (p q : Nat) : Int32 := bif Nat.ble q n then prw (C p) q else 0
def tdf (n : Nat) (C : Nat → Nat → Int32) (SH : Int32) (p : Nat) : Nat := trN n (pre (C p)) (SH / 2 + 1) n 1
theorem c_plcD {S n d : Nat} {C : Nat → Nat → Int32} {SH : Int32} (hS : yss S) (hn : n ≤ 7) (hd5 : d < 5) (hz : s S 0 = Int32.ofNat n) (hw : s (S + 11) 0 = Int32.ofNat n) (hC : ∀ p q, p < n → 1 ≤ q → q ≤ n + 1 → s (S + 13) ((d * 8 + p) * 9 + q) = C p q) (hW0 : ∀ p, p < n → s (S + 15) ((d * 8 + p) * 9 + (n + 1)) = 0) (hSH : s (S + 17) d = SH) (h29 : s 29 d = 0)
    (kk : ∀ U : yS, plInv s U S n d n C (tdf n C SH) → Φ none (pbSt U S n d (tdf n C SH) (ndf n C) (wdf n C) n)) : Yq sd 18 [.ref S, .int (Int32.ofNat d), .ref 25] s Φ := by
  refine Yq.of rfl (Nat.le_of_ble_eq_true rfl) ?_
  rcases hS with rfl | rfl
  · have hz : s 30 0 = Int32.ofNat n := hz
    refine yp_run 2 (pc' := 2) (lv' := [(0, .ref 30), (1, .int (Int32.ofNat d)), (2, .ref 25), (3, .int 0)]) (st' := []) (s' := s) rfl ?_
    refine lz_pa (C := C) (SH := SH) (TR := tdf n C SH) (by decide) hn hd5 hz hw (fun p q a b c => hC p q a b (by omega)) hSH h29 (fun p _ => rfl) n 0 s (Nat.zero_add n) (plInv_0 _ _ _ _ _ _) (fun U hU => ?_)
    have fU := hU.1
    have w1 : Yp sd 18 188 [(0, .ref 30), (1, .int (Int32.ofNat d)), (2, .ref 25), (3, .int (Int32.ofNat n))] [] (pbSt U 30 n d (tdf n C SH) (ndf n C) (wdf n C) n) Φ := by
      refine yp_rv rfl rfl ?_
      exact kk U hU
    have w2 := lz_pb (s := U) (by decide) hn hd5 ((congrFun (fU _ (by decide) (by decide) (by decide)) _).trans hz) ((congrFun (fU _ (by decide) (by decide) (by decide)) _).trans hw) ((congrFun (fU _ (by decide) (by decide) (by decide)) _).trans h29) (fun p a => hU.2.2.2.1 p a) (fun p _ => trN_in n 0 (Nat.zero_add n)) (fun p q a b c => ?_) (fun p q a b c => ?_) w1 n 0 (Nat.zero_add _)
    · rw [pbSt_0] at w2
      refine yp_run 2 (pc' := 50) (lv' := [(0, .ref 30), (1, .int (Int32.ofNat d)), (2, .ref 25), (3, .int 0)]) (st' := []) (s' := U) rfl ?_
      exact w2
    · unfold wdf
      cases hb : Nat.ble q n with
      | true => exact hU.2.2.1 p q a b (Nat.le_of_ble_eq_true hb)
      | false =>
        have hq : ¬ q ≤ n := fun e => by rw [Nat.ble_eq_true_of_le e] at hb; cases hb
        rw [show q = n + 1 by omega]
        refine (hU.2.2.2.2.2 (d * 8 + p) (n + 1) (by omega) (Or.inr (Or.inr (Or.inr (by omega))))).trans ?_
        exact hW0 p a
    · unfold ndf
      cases hb : Nat.ble q n with
      | true => exact hU.2.1 p q a b (Nat.le_of_ble_eq_true hb)
      | false =>
        have hq : ¬ q ≤ n := fun e => by rw [Nat.ble_eq_true_of_le e] at hb; cases hb
        rw [show q = n + 1 by omega]
        refine (hU.2.2.2.2.1 (d * 8 + p) (n + 1) (by omega) (Or.inr (Or.inr (Or.inr (by omega))))).trans ?_
        exact hC p (n + 1) a (by omega) (by omega)
  · have hz : s 52 0 = Int32.ofNat n := hz
    refine yp_run 2 (pc' := 2) (lv' := [(0, .ref 52), (1, .int (Int32.ofNat d)), (2, .ref 25), (3, .int 0)]) (st' := []) (s' := s) rfl ?_
    refine lz_pa (C := C) (SH := SH) (TR := tdf n C SH) (by decide) hn hd5 hz hw (fun p q a b c => hC p q a b (by omega)) hSH h29 (fun p _ => rfl) n 0 s (Nat.zero_add n) (plInv_0 _ _ _ _ _ _) (fun U hU => ?_)
    have fU := hU.1
    have w1 : Yp sd 18 188 [(0, .ref 52), (1, .int (Int32.ofNat d)), (2, .ref 25), (3, .int (Int32.ofNat n))] [] (pbSt U 52 n d (tdf n C SH) (ndf n C) (wdf n C) n) Φ := by
      refine yp_rv rfl rfl ?_
      exact kk U hU
    have w2 := lz_pb (s := U) (by decide) hn hd5 ((congrFun (fU _ (by decide) (by decide) (by decide)) _).trans hz) ((congrFun (fU _ (by decide) (by decide) (by decide)) _).trans hw) ((congrFun (fU _ (by decide) (by decide) (by decide)) _).trans h29) (fun p a => hU.2.2.2.1 p a) (fun p _ => trN_in n 0 (Nat.zero_add n)) (fun p q a b c => ?_) (fun p q a b c => ?_) w1 n 0 (Nat.zero_add _)
    · rw [pbSt_0] at w2
      refine yp_run 2 (pc' := 50) (lv' := [(0, .ref 52), (1, .int (Int32.ofNat d)), (2, .ref 25), (3, .int 0)]) (st' := []) (s' := U) rfl ?_
      exact w2
    · unfold wdf
      cases hb : Nat.ble q n with
      | true => exact hU.2.2.1 p q a b (Nat.le_of_ble_eq_true hb)
      | false =>
        have hq : ¬ q ≤ n := fun e => by rw [Nat.ble_eq_true_of_le e] at hb; cases hb
        rw [show q = n + 1 by omega]
        refine (hU.2.2.2.2.2 (d * 8 + p) (n + 1) (by omega) (Or.inr (Or.inr (Or.inr (by omega))))).trans ?_
        exact hW0 p a
    · unfold ndf
      cases hb : Nat.ble q n with
      | true => exact hU.2.1 p q a b (Nat.le_of_ble_eq_true hb)
      | false =>
        have hq : ¬ q ≤ n := fun e => by rw [Nat.ble_eq_true_of_le e] at hb; cases hb
        rw [show q = n + 1 by omega]
        refine (hU.2.2.2.2.1 (d * 8 + p) (n + 1) (by omega) (Or.inr (Or.inr (Or.inr (by omega))))).trans ?_
        exact hC p (n + 1) a (by omega) (by omega)
/-- of the first J judges, how many with this mark; with a sheet -/
def cntJ (E : Nat → Nat → Nat → Int32) (d p q : Nat) : Nat → Int32
  | 0 => 0
  | J + 1 => bif xcmp .eq (E J d 0) 0 then cntJ E d p q J else cntJ E d p q J + (bif xcmp .eq (E J d p) (Int32.ofNat q) then 1 else 0)
def shsJ (E : Nat → Nat → Nat → Int32) (d : Nat) : Nat → Int32
  | 0 => 0
  | J + 1 => bif xcmp .eq (E J d 0) 0 then shsJ E d J else shsJ E d J + 1
def ctf (j d i a b : Nat) : Nat := if a = d ∧ b < i then j + 1 else if a < d then j + 1 else j
def ctg (j d a : Nat) : Nat := if a < d then j + 1 else j
theorem ctf_at (j d i : Nat) : ctf j d i d i = j := by
  unfold ctf
  repeat' split
  all_goals omega
theorem ctf_s1 (j d i : Nat) : ctf j d (i + 1) d i = j + 1 := by
  unfold ctf
  repeat' split
  all_goals omega
theorem ctf_s {j d i a b : Nat} (h : ¬ (a = d ∧ b = i)) : ctf j d i a b = ctf j d (i + 1) a b := by
  unfold ctf
  repeat' split
  all_goals omega
/-- how far it is counted: f judges for a place, g for a dance -/
def ctInv (s T : yS) (S n D : Nat) (E : Nat → Nat → Nat → Int32) (f : Nat → Nat → Nat) (g : Nat → Nat) : Prop :=
  (∀ k, k ≠ S + 13 → k ≠ S + 17 → T k = s k) ∧
  (∀ d p q, d < D → p < n → q < 9 → T (S + 13) ((d * 8 + p) * 9 + q) = cntJ E d p q (f d p)) ∧
  (∀ d, d < D → T (S + 17) d = shsJ E d (g d))
theorem add_cell {T : yS} {k R R' q : Nat} {m : Int32} (hk : ycl k = 9) (hl : yln (k + 1) = 360) (hR : R < 40) (hR' : R' < 40) (hq : q < 9) : gset T k (Int32.ofNat R) m (gget T k (Int32.ofNat R) m + 1) (k + 1) (R' * 9 + q) = bif decide (R' = R) && xcmp .eq m (Int32.ofNat q) then T (k + 1) (R' * 9 + q) + 1 else T (k + 1) (R' * 9 + q) := by
  by_cases hm : yin m 9
  · obtain ⟨c, hc, rfl⟩ : ∃ c : Nat, c < 9 ∧ m = Int32.ofNat c := by
      refine ⟨m.toInt.toNat, by unfold yin at hm; omega, ?_⟩
      apply Int32.toInt_inj.mp
      rw [i32_to (by unfold yin at hm; omega)]
      unfold yin at hm
      omega
    have e1 : gget T k (Int32.ofNat R) (Int32.ofNat c) = T (k + 1) (R * 9 + c) := by
      have := gget_i (s := T) (k := k) (a := R) (b := c) (by omega) (by omega) (by rw [hk, hl]; omega)
      rw [hk] at this
      exact this
    have e2 : ∀ v, gset T k (Int32.ofNat R) (Int32.ofNat c) v = yup T (k + 1) (R * 9 + c) v := fun v => by
      have := gset_i (s := T) (k := k) (a := R) (b := c) (v := v) (by omega) (by omega) (by rw [hk, hl]; omega)
      rw [hk] at this
      exact this
    rw [e1, e2]
    have hx : xcmp .eq (Int32.ofNat c) (Int32.ofNat q) = decide (c = q) := by
      rw [xc_eq]
      refine decide_eq_decide.mpr ⟨fun h => ?_, fun h => by rw [h]⟩
      have := congrArg Int32.toInt h
      rw [i32_to (by omega), i32_to (by omega)] at this
      omega
    rw [hx]
    by_cases h : R' = R ∧ c = q
    · rw [h.1, h.2, yup_at]
      simp
    · have : (decide (R' = R) && decide (c = q)) = false := by
        simpa using h
      rw [this]
      unfold yup
      rw [if_neg (fun e => h (by omega))]
      rfl
  · have e2 : ∀ v, gset T k (Int32.ofNat R) m v = T := fun v => by
      unfold gset gat
      rw [hk, if_neg hm, if_neg (by unfold yin; rw [show (-1 : Int32).toInt = -1 from rfl]; omega)]
    rw [e2, show xcmp .eq m (Int32.ofNat q) = false by
      rw [xc_eq]
      refine decide_eq_false (fun h => hm ?_)
      rw [h]
      unfold yin
      rw [i32_to (by omega)]
      omega, Bool.and_false]
    rfl
theorem add_ne {T : yS} {k k' : Nat} {r m v : Int32} (h : k' ≠ k + 1) : gset T k r m v k' = T k' := by
  unfold gset
  split
  · exact yup_ne h
  · rfl
theorem c_markv {j d p v : Int32} (hv : gget s 26 (j * 5 + d) p = v) (kk : Φ (some (.int v)) s) : Yq sd 3 [.ref 25, .int j, .int d, .int p] s Φ := by
  subst hv
  exact c_mark kk
theorem c_hasv {j d v : Int32} (hv : has s j d = v) (kk : Φ (some (.int v)) s) : Yq sd 2 [.ref 25, .int j, .int d] s Φ := by
  subst hv
  exact c_has kk
theorem lz_ci {S n D j d : Nat} {E : Nat → Nat → Nat → Int32} (hS : yss S) (hn : n ≤ 7) (hD : D ≤ 5) (hj : j < 7) (hz : s S 0 = Int32.ofNat n) (hD1 : s S 1 = Int32.ofNat D) (hm : ∀ d p, d < 5 → p < 8 → s 27 ((j * 5 + d) * 8 + p) = E j d p) (hdD : d < D) (hE0 : xcmp .eq (E j d 0) 0 = false) : ∀ (m i : Nat) (T : yS), i + m = n →
    ctInv s T S n D E (ctf j d i) (ctg j (d + 1)) →
    (∀ T' : yS, ctInv s T' S n D E (ctf j d n) (ctg j (d + 1)) → Yp sd 13 67 [(0, .ref S), (1, .int (Int32.ofNat j)), (2, .ref 25), (3, .int (Int32.ofNat d)), (4, .int (Int32.ofNat n))] [] T' Φ) →
    Yp sd 13 31 [(0, .ref S), (1, .int (Int32.ofNat j)), (2, .ref 25), (3, .int (Int32.ofNat d)), (4, .int (Int32.ofNat i))] [] T Φ := by
  rcases hS with rfl | rfl
  · have hz : s 30 0 = Int32.ofNat n := hz
    intro m
    induction m with
    | zero =>
      intro i T hi hI kk
      have fr := hI.1
      have hzT : T 30 0 = Int32.ofNat n := (congrFun (fr _ (by decide) (by decide)) 0).trans hz
      refine yp_run 3 (pc' := 37) (lv' := [(0, .ref 30), (1, .int (Int32.ofNat j)), (2, .ref 25), (3, .int (Int32.ofNat d)), (4, .int (Int32.ofNat i))]) (st' := [.int (T 30 0), .int (Int32.ofNat i)]) (s' := T) rfl ?_
      refine yp_icmp rfl rfl (fun h => ?_) (fun h => ?_)
      · rw [show i = n by omega] at hI ⊢
        exact kk T hI
      · have h := xN (xc_ge _ _) h
        rw [hzT, i32_to (by omega), i32_to (by omega)] at h
        omega
    | succ m ih =>
      intro i T hi hI kk
      have fr := hI.1
      have hzT : T 30 0 = Int32.ofNat n := (congrFun (fr _ (by decide) (by decide)) 0).trans hz
      refine yp_run 3 (pc' := 37) (lv' := [(0, .ref 30), (1, .int (Int32.ofNat j)), (2, .ref 25), (3, .int (Int32.ofNat d)), (4, .int (Int32.ofNat i))]) (st' := [.int (T 30 0), .int (Int32.ofNat i)]) (s' := T) rfl ?_
      refine yp_icmp rfl rfl (fun h => ?_) (fun h => ?_)
      · have h := xT (xc_ge _ _) h
        rw [hzT, i32_to (by omega), i32_to (by omega)] at h
        omega
      · refine yp_run 4 (pc' := 47) (lv' := [(0, .ref 30), (1, .int (Int32.ofNat j)), (2, .ref 25), (3, .int (Int32.ofNat d)), (4, .int (Int32.ofNat i))]) (st' := [.int (Int32.ofNat i), .int (Int32.ofNat d), .ref 41]) (s' := T) rfl ?_
        refine yp_st rfl rfl (c_rowOf ?_)
        refine yp_run 4 (pc' := 55) (lv' := [(0, .ref 30), (1, .int (Int32.ofNat j)), (2, .ref 25), (3, .int (Int32.ofNat d)), (4, .int (Int32.ofNat i))]) (st' := [.int (Int32.ofNat i), .int (Int32.ofNat d), .int (Int32.ofNat j), .ref 25, .int ((Int32.ofNat d) * 8 + (Int32.ofNat i)), .ref 41]) (s' := T) rfl ?_
        have gm : gget T 26 (Int32.ofNat j * 5 + Int32.ofNat d) (Int32.ofNat i) = E j d i := by
          rw [show Int32.ofNat j * 5 + Int32.ofNat d = Int32.ofNat (j * 5 + d) by rw [Int32.ofNat_add, Int32.ofNat_mul]; rfl]
          exact (gget_i (k := 26) (by show i < 8; omega) (by decide) (by show (j * 5 + d) * 8 + i < 280; omega)).trans ((congrFun (fr 27 (by decide) (by decide)) _).trans (hm d i (by omega) (by omega)))
        refine yp_vi rfl rfl rfl rfl (c_markv gm ?_)
        rw [row_i]
        refine yp_vi rfl rfl rfl rfl (c_count (by decide) ?_)
        obtain ⟨U, hU⟩ : ∃ X, X = gset T 42 (Int32.ofNat (d * 8 + i)) (E j d i) (gget T 42 (Int32.ofNat (d * 8 + i)) (E j d i) + 1) := ⟨_, rfl⟩
        have e0 : ∀ X : yS, X = gset T 42 (Int32.ofNat (d * 8 + i)) (E j d i) (gget T 42 (Int32.ofNat (d * 8 + i)) (E j d i) + 1) → X = U := fun X h => h.trans hU.symm
        rw [show 41 + 1 = 42 from rfl, ← hU]
        refine yp_run 2 (pc' := 31) (lv' := [(0, .ref 30), (1, .int (Int32.ofNat j)), (2, .ref 25), (3, .int (Int32.ofNat d)), (4, .int ((Int32.ofNat i) + 1))]) (st' := []) (s' := U) rfl ?_
        have hI2 : ctInv s U 30 n D E (ctf j d (i + 1)) (ctg j (d + 1)) := by
          refine ⟨fun k a b => ?_, fun a b q h1 h2 h3 => ?_, fun a h1 => ?_⟩
          · rw [hU, add_ne a]
            exact fr k a b
          · rw [hU, show 30 + 13 = 42 + 1 from rfl, add_cell (by decide) (by decide) (by omega) (by omega) h3]
            have e1 := hI.2.1 a b q h1 h2 h3
            by_cases hab : a = d ∧ b = i
            · rw [hab.1, hab.2] at e1 ⊢
              rw [ctf_at] at e1
              rw [ctf_s1]
              show _ = (bif xcmp .eq (E j d 0) 0 then _ else _)
              rw [hE0, show 42 + 1 = 30 + 13 from rfl, e1]
              cases xcmp .eq (E j d i) (Int32.ofNat q) <;> simp
            · rw [show decide (a * 8 + b = d * 8 + i) = false from decide_eq_false (fun e => hab (by omega)), Bool.false_and]
              refine e1.trans ?_
              rw [ctf_s hab]
          · rw [hU, add_ne (by omega)]
            exact hI.2.2 a h1
        rw [i32_s]
        exact ih (i + 1) U (by omega) hI2 kk
  · have hz : s 52 0 = Int32.ofNat n := hz
    intro m
    induction m with
    | zero =>
      intro i T hi hI kk
      have fr := hI.1
      have hzT : T 52 0 = Int32.ofNat n := (congrFun (fr _ (by decide) (by decide)) 0).trans hz
      refine yp_run 3 (pc' := 37) (lv' := [(0, .ref 52), (1, .int (Int32.ofNat j)), (2, .ref 25), (3, .int (Int32.ofNat d)), (4, .int (Int32.ofNat i))]) (st' := [.int (T 52 0), .int (Int32.ofNat i)]) (s' := T) rfl ?_
      refine yp_icmp rfl rfl (fun h => ?_) (fun h => ?_)
      · rw [show i = n by omega] at hI ⊢
        exact kk T hI
      · have h := xN (xc_ge _ _) h
        rw [hzT, i32_to (by omega), i32_to (by omega)] at h
        omega
    | succ m ih =>
      intro i T hi hI kk
      have fr := hI.1
      have hzT : T 52 0 = Int32.ofNat n := (congrFun (fr _ (by decide) (by decide)) 0).trans hz
      refine yp_run 3 (pc' := 37) (lv' := [(0, .ref 52), (1, .int (Int32.ofNat j)), (2, .ref 25), (3, .int (Int32.ofNat d)), (4, .int (Int32.ofNat i))]) (st' := [.int (T 52 0), .int (Int32.ofNat i)]) (s' := T) rfl ?_
      refine yp_icmp rfl rfl (fun h => ?_) (fun h => ?_)
      · have h := xT (xc_ge _ _) h
        rw [hzT, i32_to (by omega), i32_to (by omega)] at h
        omega
      · refine yp_run 4 (pc' := 47) (lv' := [(0, .ref 52), (1, .int (Int32.ofNat j)), (2, .ref 25), (3, .int (Int32.ofNat d)), (4, .int (Int32.ofNat i))]) (st' := [.int (Int32.ofNat i), .int (Int32.ofNat d), .ref 63]) (s' := T) rfl ?_
        refine yp_st rfl rfl (c_rowOf ?_)
        refine yp_run 4 (pc' := 55) (lv' := [(0, .ref 52), (1, .int (Int32.ofNat j)), (2, .ref 25), (3, .int (Int32.ofNat d)), (4, .int (Int32.ofNat i))]) (st' := [.int (Int32.ofNat i), .int (Int32.ofNat d), .int (Int32.ofNat j), .ref 25, .int ((Int32.ofNat d) * 8 + (Int32.ofNat i)), .ref 63]) (s' := T) rfl ?_
        have gm : gget T 26 (Int32.ofNat j * 5 + Int32.ofNat d) (Int32.ofNat i) = E j d i := by
          rw [show Int32.ofNat j * 5 + Int32.ofNat d = Int32.ofNat (j * 5 + d) by rw [Int32.ofNat_add, Int32.ofNat_mul]; rfl]
          exact (gget_i (k := 26) (by show i < 8; omega) (by decide) (by show (j * 5 + d) * 8 + i < 280; omega)).trans ((congrFun (fr 27 (by decide) (by decide)) _).trans (hm d i (by omega) (by omega)))
        refine yp_vi rfl rfl rfl rfl (c_markv gm ?_)
        rw [row_i]
        refine yp_vi rfl rfl rfl rfl (c_count (by decide) ?_)
        obtain ⟨U, hU⟩ : ∃ X, X = gset T 64 (Int32.ofNat (d * 8 + i)) (E j d i) (gget T 64 (Int32.ofNat (d * 8 + i)) (E j d i) + 1) := ⟨_, rfl⟩
        have e0 : ∀ X : yS, X = gset T 64 (Int32.ofNat (d * 8 + i)) (E j d i) (gget T 64 (Int32.ofNat (d * 8 + i)) (E j d i) + 1) → X = U := fun X h => h.trans hU.symm
        rw [show 63 + 1 = 64 from rfl, ← hU]
        refine yp_run 2 (pc' := 31) (lv' := [(0, .ref 52), (1, .int (Int32.ofNat j)), (2, .ref 25), (3, .int (Int32.ofNat d)), (4, .int ((Int32.ofNat i) + 1))]) (st' := []) (s' := U) rfl ?_
        have hI2 : ctInv s U 52 n D E (ctf j d (i + 1)) (ctg j (d + 1)) := by
          refine ⟨fun k a b => ?_, fun a b q h1 h2 h3 => ?_, fun a h1 => ?_⟩
          · rw [hU, add_ne a]
            exact fr k a b
          · rw [hU, show 52 + 13 = 64 + 1 from rfl, add_cell (by decide) (by decide) (by omega) (by omega) h3]
            have e1 := hI.2.1 a b q h1 h2 h3
            by_cases hab : a = d ∧ b = i
            · rw [hab.1, hab.2] at e1 ⊢
              rw [ctf_at] at e1
              rw [ctf_s1]
              show _ = (bif xcmp .eq (E j d 0) 0 then _ else _)
              rw [hE0, show 64 + 1 = 52 + 13 from rfl, e1]
              cases xcmp .eq (E j d i) (Int32.ofNat q) <;> simp
            · rw [show decide (a * 8 + b = d * 8 + i) = false from decide_eq_false (fun e => hab (by omega)), Bool.false_and]
              refine e1.trans ?_
              rw [ctf_s hab]
          · rw [hU, add_ne (by omega)]
            exact hI.2.2 a h1
        rw [i32_s]
        exact ih (i + 1) U (by omega) hI2 kk
end YT3
