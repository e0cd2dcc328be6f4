/-! how fragile it is -/
section YAC
variable {sd : Option (List Int32)} {μ pc : Nat} {lv : xL} {st : List Value} {s : yS} {Φ : Option Value → yS → Prop}
/-- whether one of the next k sets of so many makes others win -/
def frB (P w0 : Int32) (WN : Nat → Int32) (num : Int32) : Nat → Nat → Bool
  | 0, _ => false
  | k + 1, t => bif xcmp .ne (Int32.ofNat t &&& (P ^^^ -1)) 0 then frB P w0 WN num k (t + 1) else bif xcmp .ne (bc6 (Int32.ofNat t)) num then frB P w0 WN num k (t + 1) else bif xcmp .eq (WN t) w0 then frB P w0 WN num k (t + 1) else true
def frO (P w0 : Int32) (WN : Nat → Int32) : Nat → Nat → Int32
  | 0, _ => -1
  | k + 1, q => bif frB P w0 WN (Int32.ofNat q) 127 1 then Int32.ofNat q else frO P w0 WN k (q + 1)
def wns (n D : Nat) (m : Nat → Int32) (w : Int32) : Int32 := wnn (EPf n D (ef w m)) n
theorem lz_fi {n D J : Nat} {P : Int32} {cl jc m : Nat → Int32} {w0 K num : Int32} (hD : D ≤ 5) (hn : n ≤ 7) : ∀ (k t : Nat) (T : yS), t + k = 128 → finF T n D J P cl jc m →
    (frB P w0 (fun t => wns n D m (Int32.ofNat t)) num k t = true → ∀ U : yS, finF U n D J P cl jc m → Φ (some (.int num)) U) →
    (frB P w0 (fun t => wns n D m (Int32.ofNat t)) num k t = false → ∀ U : yS, finF U n D J P cl jc m → Yp sd 48 102 [(0, .ref 0), (1, .int w0), (2, .int K), (3, .int num)] [] U Φ) → Yp sd 48 38 [(0, .ref 0), (1, .int w0), (2, .int K), (3, .int num), (4, .int (Int32.ofNat t))] [] T Φ := by
  intro k
  induction k with
  | zero =>
    intro t T hi hT kT kF
    refine yp_run 2 (pc' := 43) (lv' := [(0, .ref 0), (1, .int w0), (2, .int K), (3, .int num), (4, .int (Int32.ofNat t))]) (st' := [.int 128, .int (Int32.ofNat t)]) (s' := T) rfl ?_
    refine yp_icmp rfl rfl (fun h => ?_) (fun h => ?_)
    · refine yp_sel [0, 1, 2, 3] ?_
      exact kF rfl T hT
    · have h := xN (xc_ge _ _) h
      rw [show (128 : Int32).toInt = 128 from rfl, i32_to (by omega)] at h
      omega
  | succ k ih =>
    intro t T hi hT kT kF
    refine yp_run 2 (pc' := 43) (lv' := [(0, .ref 0), (1, .int w0), (2, .int K), (3, .int num), (4, .int (Int32.ofNat t))]) (st' := [.int 128, .int (Int32.ofNat t)]) (s' := T) rfl ?_
    refine yp_icmp rfl rfl (fun h => ?_) (fun h => ?_)
    · have h := xT (xc_ge _ _) h
      rw [show (128 : Int32).toInt = 128 from rfl, i32_to (by omega)] at h
      omega
    · have hT9 := hT
      obtain ⟨⟨b0, b1, b2, b3, b4, b5, b6, b7, b8, b9, b10, b11, b12, b13, b14, b15, b16, b17, b18, b19, b20, b21, b22⟩, hm, hs, hW⟩ := hT
      obtain ⟨s0, s1, sP, sR, sT, sE, sQ, sN, sW⟩ := hs
      refine yp_run 7 (pc' := 58) (lv' := [(0, .ref 0), (1, .int w0), (2, .int K), (3, .int num), (4, .int (Int32.ofNat t))]) (st' := [.int ((Int32.ofNat t) &&& ((T 15 3) ^^^ (-1)))]) (s' := T) rfl ?_
      refine yp_if rfl rfl (fun h58 => ?_) (fun h58 => ?_)
      · refine yp_run 2 (pc' := 38) (lv' := [(0, .ref 0), (1, .int w0), (2, .int K), (3, .int num), (4, .int ((Int32.ofNat t) + 1))]) (st' := []) (s' := T) rfl ?_
        have h58x := h58
        rw [b13] at h58x
        have e9 : frB P w0 (fun t => wns n D m (Int32.ofNat t)) num (k + 1) t = frB P w0 (fun t => wns n D m (Int32.ofNat t)) num k (t + 1) := by
          show (bif xcmp .ne (Int32.ofNat t &&& (P ^^^ -1)) 0 then _ else bif xcmp .ne (bc6 (Int32.ofNat t)) num then _ else bif xcmp .eq (wns n D m (Int32.ofNat t)) w0 then _ else _) = _
          simp only [h58x, cond_true, cond_false]
        rw [i32_s]
        exact ih (t + 1) T (by omega) hT9 (fun h => kT (by rw [e9]; exact h)) (fun h => kF (by rw [e9]; exact h))
      · refine yp_run 1 (pc' := 63) (lv' := [(0, .ref 0), (1, .int w0), (2, .int K), (3, .int num), (4, .int (Int32.ofNat t))]) (st' := [.int (Int32.ofNat t)]) (s' := T) rfl ?_
        refine yp_st rfl rfl (c_bits ?_)
        refine yp_run 1 (pc' := 67) (lv' := [(0, .ref 0), (1, .int w0), (2, .int K), (3, .int num), (4, .int (Int32.ofNat t))]) (st' := [.int num, .int (bc6 (Int32.ofNat t))]) (s' := T) rfl ?_
        refine yp_icmp rfl rfl (fun h67 => ?_) (fun h67 => ?_)
        · refine yp_run 2 (pc' := 38) (lv' := [(0, .ref 0), (1, .int w0), (2, .int K), (3, .int num), (4, .int ((Int32.ofNat t) + 1))]) (st' := []) (s' := T) rfl ?_
          have h58x := h58
          rw [b13] at h58x
          have e9 : frB P w0 (fun t => wns n D m (Int32.ofNat t)) num (k + 1) t = frB P w0 (fun t => wns n D m (Int32.ofNat t)) num k (t + 1) := by
            show (bif xcmp .ne (Int32.ofNat t &&& (P ^^^ -1)) 0 then _ else bif xcmp .ne (bc6 (Int32.ofNat t)) num then _ else bif xcmp .eq (wns n D m (Int32.ofNat t)) w0 then _ else _) = _
            simp only [h58x, h67, cond_true, cond_false]
          rw [i32_s]
          exact ih (t + 1) T (by omega) hT9 (fun h => kT (by rw [e9]; exact h)) (fun h => kF (by rw [e9]; exact h))
        · refine yp_run 5 (pc' := 80) (lv' := [(0, .ref 0), (1, .int w0), (2, .int K), (3, .int num), (4, .int (Int32.ofNat t))]) (st' := [.int (Int32.ofNat t), .ref 25, .ref 52]) (s' := T) rfl ?_
          refine yp_vi rfl rfl rfl rfl (c_settle (S := 52) (E := ef (Int32.ofNat t) m) (by decide) hn hD b20 b21 b22 hW (fun a b c h1 h2 h3 => by unfold ef; rw [hm]) (fun U fU hU => ?_))
          have hUF := finF_kept hT9 fU hU.2.2.2.2.2.2.2.2
          refine yp_run 2 (pc' := 87) (lv' := [(0, .ref 0), (1, .int w0), (2, .int K), (3, .int num), (4, .int (Int32.ofNat t))]) (st' := [.ref 52]) (s' := U) rfl ?_
          refine yp_vi rfl rfl rfl rfl (c_winn (S := 52) (EP := EPf n D (ef (Int32.ofNat t) m)) (by decide) (by omega) hU.1 hU.2.2.2.2.2.1 ?_)
          refine yp_run 1 (pc' := 91) (lv' := [(0, .ref 0), (1, .int w0), (2, .int K), (3, .int num), (4, .int (Int32.ofNat t))]) (st' := [.int w0, .int (wns n D m (Int32.ofNat t))]) (s' := U) rfl ?_
          refine yp_icmp rfl rfl (fun h91 => ?_) (fun h91 => ?_)
          · refine yp_run 2 (pc' := 38) (lv' := [(0, .ref 0), (1, .int w0), (2, .int K), (3, .int num), (4, .int ((Int32.ofNat t) + 1))]) (st' := []) (s' := U) rfl ?_
            have h58x := h58
            rw [b13] at h58x
            have e9 : frB P w0 (fun t => wns n D m (Int32.ofNat t)) num (k + 1) t = frB P w0 (fun t => wns n D m (Int32.ofNat t)) num k (t + 1) := by
              show (bif xcmp .ne (Int32.ofNat t &&& (P ^^^ -1)) 0 then _ else bif xcmp .ne (bc6 (Int32.ofNat t)) num then _ else bif xcmp .eq (wns n D m (Int32.ofNat t)) w0 then _ else _) = _
              simp only [h58x, h67, h91, cond_true, cond_false]
            rw [i32_s]
            exact ih (t + 1) U (by omega) hUF (fun h => kT (by rw [e9]; exact h)) (fun h => kF (by rw [e9]; exact h))
          · refine yp_run 1 (pc' := 95) (lv' := [(0, .ref 0), (1, .int w0), (2, .int K), (3, .int num), (4, .int (Int32.ofNat t))]) (st' := [.int num]) (s' := U) rfl ?_
            have h58x := h58
            rw [b13] at h58x
            have e9 : frB P w0 (fun t => wns n D m (Int32.ofNat t)) num (k + 1) t = true := by
              show (bif xcmp .ne (Int32.ofNat t &&& (P ^^^ -1)) 0 then _ else bif xcmp .ne (bc6 (Int32.ofNat t)) num then _ else bif xcmp .eq (wns n D m (Int32.ofNat t)) w0 then _ else _) = _
              simp only [h58x, h67, h91, cond_true, cond_false]
            refine yp_ri rfl rfl ?_
            exact kT e9 U hUF
theorem lz_fo {n D J : Nat} {P : Int32} {cl jc m : Nat → Int32} {w0 : Int32} {Kn : Nat} (hD : D ≤ 5) (hn : n ≤ 7) (hK : Kn ≤ 63) : ∀ (k q : Nat) (T : yS), k = Kn - q → q ≤ 64 → finF T n D J P cl jc m →
    (∀ U : yS, finF U n D J P cl jc m → Φ (some (.int (frO P w0 (fun t => wns n D m (Int32.ofNat t)) k q))) U) → Yp sd 48 30 [(0, .ref 0), (1, .int w0), (2, .int (Int32.ofNat Kn)), (3, .int (Int32.ofNat q))] [] T Φ := by
  intro k
  induction k with
  | zero =>
    intro q T hi hq hT kk
    refine yp_run 2 (pc' := 32) (lv' := [(0, .ref 0), (1, .int w0), (2, .int (Int32.ofNat Kn)), (3, .int (Int32.ofNat q))]) (st' := [.int (Int32.ofNat Kn), .int (Int32.ofNat q)]) (s' := T) rfl ?_
    refine yp_icmp rfl rfl (fun h => ?_) (fun h => ?_)
    · refine yp_run 1 (pc' := 109) (lv' := [(0, .ref 0), (1, .int w0), (2, .int (Int32.ofNat Kn)), (3, .int (Int32.ofNat q))]) (st' := [.int (-1)]) (s' := T) rfl ?_
      refine yp_ri rfl rfl ?_
      exact kk T hT
    · have h := xN (xc_ge _ _) h
      rw [i32_to (by omega), i32_to (by omega)] at h
      omega
  | succ k ih =>
    intro q T hi hq hT kk
    refine yp_run 2 (pc' := 32) (lv' := [(0, .ref 0), (1, .int w0), (2, .int (Int32.ofNat Kn)), (3, .int (Int32.ofNat q))]) (st' := [.int (Int32.ofNat Kn), .int (Int32.ofNat q)]) (s' := T) rfl ?_
    refine yp_icmp rfl rfl (fun h => ?_) (fun h => ?_)
    · have h := xT (xc_ge _ _) h
      rw [i32_to (by omega), i32_to (by omega)] at h
      omega
    · refine yp_run 2 (pc' := 38) (lv' := [(0, .ref 0), (1, .int w0), (2, .int (Int32.ofNat Kn)), (3, .int (Int32.ofNat q)), (4, .int 1)]) (st' := []) (s' := T) rfl ?_
      refine lz_fi (w0 := w0) (K := Int32.ofNat Kn) hD hn 127 1 T rfl hT (fun hb U hU => ?_) (fun hb U hU => ?_)
      · have e9 : frO P w0 (fun t => wns n D m (Int32.ofNat t)) (k + 1) q = Int32.ofNat q := by
          show (bif frB P w0 (fun t => wns n D m (Int32.ofNat t)) (Int32.ofNat q) 127 1 then _ else _) = _
          rw [hb]
          rfl
        rw [e9] at kk
        exact kk U hU
      · have e9 : frO P w0 (fun t => wns n D m (Int32.ofNat t)) (k + 1) q = frO P w0 (fun t => wns n D m (Int32.ofNat t)) k (q + 1) := by
          show (bif frB P w0 (fun t => wns n D m (Int32.ofNat t)) (Int32.ofNat q) 127 1 then _ else _) = _
          rw [hb]
          rfl
        rw [e9] at kk
        refine yp_run 2 (pc' := 30) (lv' := [(0, .ref 0), (1, .int w0), (2, .int (Int32.ofNat Kn)), (3, .int ((Int32.ofNat q) + 1))]) (st' := []) (s' := U) rfl ?_
        rw [i32_s]
        exact ih (q + 1) U (by omega) (by omega) hU kk
def frg (n D : Nat) (P : Int32) (m : Nat → Int32) : Int32 := frO P (wns n D m 0) (fun t => wns n D m (Int32.ofNat t)) (bcN P - 1) 1
theorem c_frag {n D J : Nat} {P : Int32} {cl jc m : Nat → Int32} (hD : D ≤ 5) (hn : n ≤ 7) (hF : finF s n D J P cl jc m) (kk : ∀ U : yS, finF U n D J P cl jc m → Φ (some (.int (frg n D P m))) U) : Yq sd 48 [.ref 0] s Φ := by
  refine Yq.of rfl (Nat.le_of_ble_eq_true rfl) ?_
  have hF9 := hF
  obtain ⟨⟨b0, b1, b2, b3, b4, b5, b6, b7, b8, b9, b10, b11, b12, b13, b14, b15, b16, b17, b18, b19, b20, b21, b22⟩, hm, hs, hW⟩ := hF
  obtain ⟨s0, s1, sP, sR, sT, sE, sQ, sN, sW⟩ := hs
  refine yp_run 2 (pc' := 4) (lv' := [(0, .ref 0)]) (st' := [.int (s 0 7)]) (s' := s) rfl ?_
  refine yp_if rfl rfl (fun h4 => ?_) (fun h4 => ?_)
  · refine yp_run 2 (pc' := 13) (lv' := [(0, .ref 0)]) (st' := [.ref 30]) (s' := s) rfl ?_
    refine yp_vi rfl rfl rfl rfl (c_winn (S := 30) (EP := EPf n D (ef 0 m)) (by decide) (by omega) s0 sE ?_)
    refine yp_run 4 (pc' := 24) (lv' := [(0, .ref 0), (1, .int (wns n D m 0))]) (st' := [.int (s 15 3)]) (s' := s) rfl ?_
    rw [b13]
    refine yp_st rfl rfl (c_bits ?_)
    refine yp_run 3 (pc' := 30) (lv' := [(0, .ref 0), (1, .int (wns n D m 0)), (2, .int (bc6 P)), (3, .int 1)]) (st' := []) (s' := s) rfl ?_
    rw [bcN_ok P]
    exact lz_fo hD hn (bcN_le P) (bcN P - 1) 1 s rfl (by omega) hF9 kk
  · rw [b0] at h4; cases h4
end YAC
