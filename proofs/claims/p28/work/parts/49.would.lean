/-! a final, and what would be -/
section YAB
variable {sd : Option (List Int32)} {μ pc : Nat} {lv : xL} {st : List Value} {s : yS} {Φ : Option Value → yS → Prop}
/-- what stands but the marks and the scores -/
def inB (s : yS) (n D J : Nat) (P : Int32) (cl jc : Nat → Int32) : Prop :=
  s 0 7 = 1 ∧ s 0 8 = 0 ∧ s 1 0 = Int32.ofNat n ∧ s 3 = cl ∧ (∀ j, j < 10 → s 5 j = 0) ∧ (∀ j, j < 100 → s 7 j = 0) ∧ (∀ j, j < 50 → s 9 j = 0) ∧
  s 10 0 = Int32.ofNat J ∧ s 12 = jc ∧ (∀ j, j < 7 → s 14 j = 0) ∧ s 15 0 = 1 ∧ s 15 1 = all (Int32.ofNat n) ∧ s 15 2 = all (Int32.ofNat n) ∧ s 15 3 = P ∧ s 15 4 = Int32.ofNat D ∧ s 15 5 = 0 ∧ (∀ j, j < 10 → s 17 j = 0) ∧
  s 18 2 = 0 ∧ (∀ j, j < 35 → s 20 j = 0) ∧ (∀ j, j < 10 → s 22 j = -1) ∧ s 25 0 = Int32.ofNat n ∧ s 25 1 = Int32.ofNat D ∧ (∀ j, j < 5 → s 29 j = 0)
theorem inB_kept {s U : yS} {n D J : Nat} {P : Int32} {cl jc : Nat → Int32} (h : inB s n D J P cl jc) (he : ∀ k, k < 30 → k ≠ 27 → U k = s k) : inB U n D J P cl jc := by
  unfold inB at h ⊢
  rw [he 0 (by decide) (by decide), he 1 (by decide) (by decide), he 3 (by decide) (by decide), he 5 (by decide) (by decide), he 7 (by decide) (by decide), he 9 (by decide) (by decide), he 10 (by decide) (by decide), he 12 (by decide) (by decide), he 14 (by decide) (by decide), he 15 (by decide) (by decide), he 17 (by decide) (by decide), he 18 (by decide) (by decide), he 20 (by decide) (by decide), he 22 (by decide) (by decide), he 25 (by decide) (by decide), he 29 (by decide) (by decide)]
  exact h
def finF (s : yS) (n D J : Nat) (P : Int32) (cl jc m : Nat → Int32) : Prop := inB s n D J P cl jc ∧ s 27 = m ∧ stl s 30 n D (ef 0 m) ∧ (∀ R, R < 40 → s 67 (R * 9 + (n + 1)) = 0)
theorem finF_kept {s U : yS} {n D J : Nat} {P : Int32} {cl jc m : Nat → Int32} (h : finF s n D J P cl jc m) (he : ∀ k, (k < 52 ∨ 74 ≤ k) → U k = s k) (hW : ∀ R, R < 40 → U 67 (R * 9 + (n + 1)) = 0) : finF U n D J P cl jc m :=
  ⟨inB_kept h.1 (fun k h1 _ => he k (by omega)), (he 27 (by decide)).trans h.2.1, stl_kept h.2.2.1 (fun k _ h2 => he k (by omega)), hW⟩
theorem c_res0 {n D J : Nat} {P : Int32} {cl jc m : Nat → Int32} {c : Nat} (hn : n ≤ 7) (hF : finF s n D J P cl jc m) (hc : c < n) (kk : Φ (some (.int (EPf n D (ef 0 m) c))) s) : Yq sd 39 [.ref 0, .int (Int32.ofNat c), .int 0] s Φ := by
  refine Yq.of rfl (Nat.le_of_ble_eq_true rfl) ?_
  obtain ⟨⟨b0, b1, b2, b3, b4, b5, b6, b7, b8, b9, b10, b11, b12, b13, b14, b15, b16, b17, b18, b19, b20, b21, b22⟩, hm, hs, hW⟩ := hF
  obtain ⟨s0, s1, sP, sR, sT, sE, sQ, sN, sW⟩ := hs
  refine yp_run 2 (pc' := 2) (lv' := [(0, .ref 0), (1, .int (Int32.ofNat c)), (2, .int 0)]) (st' := [.int (Int32.ofNat c), .ref 0]) (s' := s) rfl ?_
  refine yp_vi rfl rfl rfl rfl (c_nFinv (by omega) hc b0 b12 ?_)
  refine yp_run 3 (pc' := 10) (lv' := [(0, .ref 0), (1, .int (Int32.ofNat c)), (2, .int 0)]) (st' := [.int (Int32.ofNat c), .ref 15]) (s' := s) rfl ?_
  refine yp_vi rfl rfl rfl rfl (c_posv (by omega) hc b12 ?_)
  refine yp_run 2 (pc' := 15) (lv' := [(0, .ref 0), (1, .int (Int32.ofNat c)), (2, .int 0), (3, .int (Int32.ofNat c))]) (st' := [.int 0]) (s' := s) rfl ?_
  refine yp_run 1 (pc' := 40) (lv' := [(0, .ref 0), (1, .int (Int32.ofNat c)), (2, .int 0), (3, .int (Int32.ofNat c))]) (st' := []) (s' := s) rfl ?_
  refine yp_run 4 (pc' := 48) (lv' := [(0, .ref 0), (1, .int (Int32.ofNat c)), (2, .int 0), (3, .int (Int32.ofNat c))]) (st' := [.int (Int32.ofNat c), .ref 37]) (s' := s) rfl ?_
  have gE : rget s 37 (Int32.ofNat c) = EPf n D (ef 0 m) c := (rget_i (by show c < 8; omega)).trans (sE c hc)
  refine yp_vi rfl rfl rfl rfl (c_rgetv rfl gE ?_)
  refine yp_ri rfl rfl ?_
  exact kk
theorem c_res1 {n D J : Nat} {P : Int32} {cl jc m : Nat → Int32} {c : Nat} (hn : n ≤ 7) (hF : finF s n D J P cl jc m) (hc : c < n) (kk : Φ (some (.int (ERf n D (ef 0 m) c))) s) : Yq sd 39 [.ref 0, .int (Int32.ofNat c), .int 1] s Φ := by
  refine Yq.of rfl (Nat.le_of_ble_eq_true rfl) ?_
  obtain ⟨⟨b0, b1, b2, b3, b4, b5, b6, b7, b8, b9, b10, b11, b12, b13, b14, b15, b16, b17, b18, b19, b20, b21, b22⟩, hm, hs, hW⟩ := hF
  obtain ⟨s0, s1, sP, sR, sT, sE, sQ, sN, sW⟩ := hs
  refine yp_run 2 (pc' := 2) (lv' := [(0, .ref 0), (1, .int (Int32.ofNat c)), (2, .int 1)]) (st' := [.int (Int32.ofNat c), .ref 0]) (s' := s) rfl ?_
  refine yp_vi rfl rfl rfl rfl (c_nFinv (by omega) hc b0 b12 ?_)
  refine yp_run 3 (pc' := 10) (lv' := [(0, .ref 0), (1, .int (Int32.ofNat c)), (2, .int 1)]) (st' := [.int (Int32.ofNat c), .ref 15]) (s' := s) rfl ?_
  refine yp_vi rfl rfl rfl rfl (c_posv (by omega) hc b12 ?_)
  refine yp_run 2 (pc' := 15) (lv' := [(0, .ref 0), (1, .int (Int32.ofNat c)), (2, .int 1), (3, .int (Int32.ofNat c))]) (st' := [.int 1]) (s' := s) rfl ?_
  refine yp_run 1 (pc' := 52) (lv' := [(0, .ref 0), (1, .int (Int32.ofNat c)), (2, .int 1), (3, .int (Int32.ofNat c))]) (st' := []) (s' := s) rfl ?_
  refine yp_run 4 (pc' := 60) (lv' := [(0, .ref 0), (1, .int (Int32.ofNat c)), (2, .int 1), (3, .int (Int32.ofNat c))]) (st' := [.int (Int32.ofNat c), .ref 39]) (s' := s) rfl ?_
  have gE : rget s 39 (Int32.ofNat c) = ERf n D (ef 0 m) c := (rget_i (by show c < 8; omega)).trans (sQ c hc)
  refine yp_vi rfl rfl rfl rfl (c_rgetv rfl gE ?_)
  refine yp_ri rfl rfl ?_
  exact kk
theorem c_res2 {n D J : Nat} {P : Int32} {cl jc m : Nat → Int32} {c : Nat} (hn : n ≤ 7) (hF : finF s n D J P cl jc m) (hc : c < n) (kk : Φ (some (.int (TTf n D (ef 0 m) c))) s) : Yq sd 39 [.ref 0, .int (Int32.ofNat c), .int 2] s Φ := by
  refine Yq.of rfl (Nat.le_of_ble_eq_true rfl) ?_
  obtain ⟨⟨b0, b1, b2, b3, b4, b5, b6, b7, b8, b9, b10, b11, b12, b13, b14, b15, b16, b17, b18, b19, b20, b21, b22⟩, hm, hs, hW⟩ := hF
  obtain ⟨s0, s1, sP, sR, sT, sE, sQ, sN, sW⟩ := hs
  refine yp_run 2 (pc' := 2) (lv' := [(0, .ref 0), (1, .int (Int32.ofNat c)), (2, .int 2)]) (st' := [.int (Int32.ofNat c), .ref 0]) (s' := s) rfl ?_
  refine yp_vi rfl rfl rfl rfl (c_nFinv (by omega) hc b0 b12 ?_)
  refine yp_run 3 (pc' := 10) (lv' := [(0, .ref 0), (1, .int (Int32.ofNat c)), (2, .int 2)]) (st' := [.int (Int32.ofNat c), .ref 15]) (s' := s) rfl ?_
  refine yp_vi rfl rfl rfl rfl (c_posv (by omega) hc b12 ?_)
  refine yp_run 2 (pc' := 15) (lv' := [(0, .ref 0), (1, .int (Int32.ofNat c)), (2, .int 2), (3, .int (Int32.ofNat c))]) (st' := [.int 2]) (s' := s) rfl ?_
  refine yp_run 1 (pc' := 64) (lv' := [(0, .ref 0), (1, .int (Int32.ofNat c)), (2, .int 2), (3, .int (Int32.ofNat c))]) (st' := []) (s' := s) rfl ?_
  refine yp_run 4 (pc' := 72) (lv' := [(0, .ref 0), (1, .int (Int32.ofNat c)), (2, .int 2), (3, .int (Int32.ofNat c))]) (st' := [.int (Int32.ofNat c), .ref 35]) (s' := s) rfl ?_
  have gE : rget s 35 (Int32.ofNat c) = TTf n D (ef 0 m) c := (rget_i (by show c < 8; omega)).trans (sT c hc)
  refine yp_vi rfl rfl rfl rfl (c_rgetv rfl gE ?_)
  refine yp_ri rfl rfl ?_
  exact kk
theorem c_wout {n D J : Nat} {P : Int32} {cl jc m : Nat → Int32} {c : Nat} {w : Int32} (hD : D ≤ 5) (hn : n ≤ 7) (hF : finF s n D J P cl jc m) (hc : c < n) (hw0 : 0 ≤ w.toInt) (hw1 : w.toInt < 128) (kk : ∀ T : yS, (∀ k, (k < 52 ∨ 74 ≤ k) → T k = s k) → (∀ R, R < 40 → T 67 (R * 9 + (n + 1)) = 0) → Φ (some (.int (EPf n D (ef w m) c))) T) : Yq sd 47 [.ref 0, .int w, .int (Int32.ofNat c)] s Φ := by
  refine Yq.of rfl (Nat.le_of_ble_eq_true rfl) ?_
  obtain ⟨⟨b0, b1, b2, b3, b4, b5, b6, b7, b8, b9, b10, b11, b12, b13, b14, b15, b16, b17, b18, b19, b20, b21, b22⟩, hm, hs, hW⟩ := hF
  obtain ⟨s0, s1, sP, sR, sT, sE, sQ, sN, sW⟩ := hs
  refine yp_run 2 (pc' := 2) (lv' := [(0, .ref 0), (1, .int w), (2, .int (Int32.ofNat c))]) (st' := [.int (Int32.ofNat c), .ref 0]) (s' := s) rfl ?_
  refine yp_vi rfl rfl rfl rfl (c_nFinv (by omega) hc b0 b12 ?_)
  refine yp_run 1 (pc' := 6) (lv' := [(0, .ref 0), (1, .int w), (2, .int (Int32.ofNat c))]) (st' := [.int w]) (s' := s) rfl ?_
  refine yp_if rfl rfl (fun h6 => ?_) (fun h6 => ?_)
  · have h6 := xT (xc_lt _ _) h6; rw [Int32.toInt_zero] at h6; omega
  · refine yp_run 2 (pc' := 13) (lv' := [(0, .ref 0), (1, .int w), (2, .int (Int32.ofNat c))]) (st' := [.int 128, .int w]) (s' := s) rfl ?_
    refine yp_icmp rfl rfl (fun h13 => ?_) (fun h13 => ?_)
    · refine yp_run 5 (pc' := 36) (lv' := [(0, .ref 0), (1, .int w), (2, .int (Int32.ofNat c))]) (st' := [.int w, .ref 25, .ref 52]) (s' := s) rfl ?_
      refine yp_vi rfl rfl rfl rfl (c_settle (S := 52) (E := ef w m) (by decide) hn hD b20 b21 b22 hW (fun a b c h1 h2 h3 => by unfold ef; rw [hm]) (fun T fT hT => ?_))
      refine yp_run 6 (pc' := 51) (lv' := [(0, .ref 0), (1, .int w), (2, .int (Int32.ofNat c))]) (st' := [.int (Int32.ofNat c), .ref 15, .ref 59]) (s' := T) rfl ?_
      refine yp_vi rfl rfl rfl rfl (c_posv (by omega) hc ((congrFun (fT 15 (by decide)) 2).trans b12) ?_)
      obtain ⟨t0, t1, tP, tR, tT, tE, tQ, tN, tW⟩ := hT
      have gE : rget T 59 (Int32.ofNat c) = EPf n D (ef w m) c := (rget_i (by show c < 8; omega)).trans (tE c hc)
      refine yp_vi rfl rfl rfl rfl (c_rgetv rfl gE ?_)
      refine yp_ri rfl rfl ?_
      exact kk T fT tW
    · exact absurd hw1 (xN (xc_lt _ _) h13)
theorem c_exdd {n D J : Nat} {P : Int32} {cl jc m : Nat → Int32} {j d x y c : Nat} (hD : D ≤ 5) (hn : n ≤ 7) (hF : finF s n D J P cl jc m) (hj : j < 7) (hd : d < D) (hh : m ((j * 5 + d) * 8) ≠ 0) (hx : x < n) (hy : y < n) (hc : c < n) (kk : ∀ T : yS, (∀ k, (k < 52 ∨ 74 ≤ k) → T k = s k) → (∀ R, R < 40 → T 67 (R * 9 + (n + 1)) = 0) → Φ (some (.int (EPf n D (ef 0 (swp m ((j * 5 + d) * 8 + x) ((j * 5 + d) * 8 + y))) c))) T) : Yq sd 42 [.ref 0, .int (Int32.ofNat j), .int (Int32.ofNat d), .int (Int32.ofNat x), .int (Int32.ofNat y), .int (Int32.ofNat c)] s Φ := by
  refine Yq.of rfl (Nat.le_of_ble_eq_true rfl) ?_
  obtain ⟨⟨b0, b1, b2, b3, b4, b5, b6, b7, b8, b9, b10, b11, b12, b13, b14, b15, b16, b17, b18, b19, b20, b21, b22⟩, hm, hs, hW⟩ := hF
  obtain ⟨s0, s1, sP, sR, sT, sE, sQ, sN, sW⟩ := hs
  refine yp_run 3 (pc' := 3) (lv' := [(0, .ref 0), (1, .int (Int32.ofNat j)), (2, .int (Int32.ofNat d)), (3, .int (Int32.ofNat x)), (4, .int (Int32.ofNat y)), (5, .int (Int32.ofNat c))]) (st' := [.int (Int32.ofNat d), .int (Int32.ofNat j), .ref 0]) (s' := s) rfl ?_
  refine yp_vi rfl rfl rfl rfl (c_nShe b0 (hass_i hj (by omega) (by rw [hm]; exact hh)) ?_)
  refine yp_run 2 (pc' := 8) (lv' := [(0, .ref 0), (1, .int (Int32.ofNat j)), (2, .int (Int32.ofNat d)), (3, .int (Int32.ofNat x)), (4, .int (Int32.ofNat y)), (5, .int (Int32.ofNat c))]) (st' := [.int (Int32.ofNat x), .ref 0]) (s' := s) rfl ?_
  refine yp_vi rfl rfl rfl rfl (c_nFinv (by omega) hx b0 b12 ?_)
  refine yp_run 2 (pc' := 14) (lv' := [(0, .ref 0), (1, .int (Int32.ofNat j)), (2, .int (Int32.ofNat d)), (3, .int (Int32.ofNat x)), (4, .int (Int32.ofNat y)), (5, .int (Int32.ofNat c))]) (st' := [.int (Int32.ofNat y), .ref 0]) (s' := s) rfl ?_
  refine yp_vi rfl rfl rfl rfl (c_nFinv (by omega) hy b0 b12 ?_)
  refine yp_run 2 (pc' := 20) (lv' := [(0, .ref 0), (1, .int (Int32.ofNat j)), (2, .int (Int32.ofNat d)), (3, .int (Int32.ofNat x)), (4, .int (Int32.ofNat y)), (5, .int (Int32.ofNat c))]) (st' := [.int (Int32.ofNat c), .ref 0]) (s' := s) rfl ?_
  refine yp_vi rfl rfl rfl rfl (c_nFinv (by omega) hc b0 b12 ?_)
  refine yp_run 6 (pc' := 31) (lv' := [(0, .ref 0), (1, .int (Int32.ofNat j)), (2, .int (Int32.ofNat d)), (3, .int (Int32.ofNat x)), (4, .int (Int32.ofNat y)), (5, .int (Int32.ofNat c))]) (st' := [.int (Int32.ofNat x), .ref 15, .int (Int32.ofNat d), .int (Int32.ofNat j), .ref 0]) (s' := s) rfl ?_
  refine yp_vi rfl rfl rfl rfl (c_posv (by omega) hx b12 ?_)
  refine yp_run 3 (pc' := 40) (lv' := [(0, .ref 0), (1, .int (Int32.ofNat j)), (2, .int (Int32.ofNat d)), (3, .int (Int32.ofNat x)), (4, .int (Int32.ofNat y)), (5, .int (Int32.ofNat c))]) (st' := [.int (Int32.ofNat y), .ref 15, .int (Int32.ofNat x), .int (Int32.ofNat d), .int (Int32.ofNat j), .ref 0]) (s' := s) rfl ?_
  refine yp_vi rfl rfl rfl rfl (c_posv (by omega) hy b12 ?_)
  refine yp_vi rfl rfl rfl rfl (c_tryE hn hD hj (by omega) (by omega) (by omega) b20 b21 b22 hW (fun T fT hT => ?_))
  rw [hm] at hT
  refine yp_run 6 (pc' := 59) (lv' := [(0, .ref 0), (1, .int (Int32.ofNat j)), (2, .int (Int32.ofNat d)), (3, .int (Int32.ofNat x)), (4, .int (Int32.ofNat y)), (5, .int (Int32.ofNat c))]) (st' := [.int (Int32.ofNat c), .ref 15, .ref 59]) (s' := T) rfl ?_
  refine yp_vi rfl rfl rfl rfl (c_posv (by omega) hc ((congrFun (fT 15 (by decide)) 2).trans b12) ?_)
  obtain ⟨t0, t1, tP, tR, tT, tE, tQ, tN, tW⟩ := hT
  have gE : rget T 59 (Int32.ofNat c) = EPf n D (ef 0 (swp m ((j * 5 + d) * 8 + x) ((j * 5 + d) * 8 + y))) c := (rget_i (by show c < 8; omega)).trans (tE c hc)
  refine yp_vi rfl rfl rfl rfl (c_rgetv rfl gE ?_)
  refine yp_ri rfl rfl ?_
  exact kk T fT tW
/-- the inner round: those behind a -/
def bis (V : Nat → Nat → Int32) (a i : Nat) (e : Int32 × Int32) : Int32 × Int32 := bif xcmp .ge (V a (a + 1 + i)) e.1 then e else (V a (a + 1 + i), 10 * Int32.ofNat a + Int32.ofNat (a + 1 + i))
def bos (V : Nat → Nat → Int32) (n a : Nat) (e : Int32 × Int32) : Int32 × Int32 := itf (bis V a) (n - (a + 1)) e
def vx (n D : Nat) (m : Nat → Int32) (j d c a b : Nat) : Int32 := EPf n D (ef 0 (swp m ((j * 5 + d) * 8 + a) ((j * 5 + d) * 8 + b))) c
theorem lz_bi {n D J : Nat} {P : Int32} {cl jc m : Nat → Int32} {j d c a : Nat} {e : Int32 × Int32} (hD : D ≤ 5) (hn : n ≤ 7) (hj : j < 7) (hd : d < D) (hc : c < n) (ha : a < n) : ∀ (k i : Nat) (T : yS), i + k = n - (a + 1) → finF T n D J P cl jc m →
    (∀ U : yS, finF U n D J P cl jc m → Yp sd 45 136 [(0, .ref 0), (1, .int (Int32.ofNat j)), (2, .int (Int32.ofNat d)), (3, .int (Int32.ofNat c)), (4, .int (Int32.ofNat c)), (5, .int ((itf (bis (vx n D m j d c) a) (n - (a + 1)) e).1)), (6, .int ((itf (bis (vx n D m j d c) a) (n - (a + 1)) e).2)), (7, .int (Int32.ofNat a))] [] U Φ) → Yp sd 45 59 [(0, .ref 0), (1, .int (Int32.ofNat j)), (2, .int (Int32.ofNat d)), (3, .int (Int32.ofNat c)), (4, .int (Int32.ofNat c)), (5, .int ((itf (bis (vx n D m j d c) a) i e).1)), (6, .int ((itf (bis (vx n D m j d c) a) i e).2)), (7, .int (Int32.ofNat a)), (8, .int (Int32.ofNat (a + 1 + i)))] [] T Φ := by
  intro k
  induction k with
  | zero =>
    intro i T hi hT kk
    have hT9 := hT
    obtain ⟨⟨b0, b1, b2, b3, b4, b5, b6, b7, b8, b9, b10, b11, b12, b13, b14, b15, b16, b17, b18, b19, b20, b21, b22⟩, hm, hs, hW⟩ := hT
    obtain ⟨s0, s1, sP, sR, sT, sE, sQ, sN, sW⟩ := hs
    refine yp_run 4 (pc' := 68) (lv' := [(0, .ref 0), (1, .int (Int32.ofNat j)), (2, .int (Int32.ofNat d)), (3, .int (Int32.ofNat c)), (4, .int (Int32.ofNat c)), (5, .int ((itf (bis (vx n D m j d c) a) i e).1)), (6, .int ((itf (bis (vx n D m j d c) a) i e).2)), (7, .int (Int32.ofNat a)), (8, .int (Int32.ofNat (a + 1 + i)))]) (st' := [.int (T 25 0), .int (Int32.ofNat (a + 1 + i))]) (s' := T) rfl ?_
    refine yp_icmp rfl rfl (fun h => ?_) (fun h => ?_)
    · rw [show i = n - (a + 1) by omega]
      refine yp_sel [0, 1, 2, 3, 4, 5, 6, 7] ?_
      exact kk T hT9
    · have h := xN (xc_ge _ _) h
      rw [b20, i32_to (by omega), i32_to (by omega)] at h
      omega
  | succ k ih =>
    intro i T hi hT kk
    have hT9 := hT
    obtain ⟨⟨b0, b1, b2, b3, b4, b5, b6, b7, b8, b9, b10, b11, b12, b13, b14, b15, b16, b17, b18, b19, b20, b21, b22⟩, hm, hs, hW⟩ := hT
    obtain ⟨s0, s1, sP, sR, sT, sE, sQ, sN, sW⟩ := hs
    refine yp_run 4 (pc' := 68) (lv' := [(0, .ref 0), (1, .int (Int32.ofNat j)), (2, .int (Int32.ofNat d)), (3, .int (Int32.ofNat c)), (4, .int (Int32.ofNat c)), (5, .int ((itf (bis (vx n D m j d c) a) i e).1)), (6, .int ((itf (bis (vx n D m j d c) a) i e).2)), (7, .int (Int32.ofNat a)), (8, .int (Int32.ofNat (a + 1 + i)))]) (st' := [.int (T 25 0), .int (Int32.ofNat (a + 1 + i))]) (s' := T) rfl ?_
    refine yp_icmp rfl rfl (fun h => ?_) (fun h => ?_)
    · have h := xT (xc_ge _ _) h
      rw [b20, i32_to (by omega), i32_to (by omega)] at h
      omega
    · refine yp_run 5 (pc' := 78) (lv' := [(0, .ref 0), (1, .int (Int32.ofNat j)), (2, .int (Int32.ofNat d)), (3, .int (Int32.ofNat c)), (4, .int (Int32.ofNat c)), (5, .int ((itf (bis (vx n D m j d c) a) i e).1)), (6, .int ((itf (bis (vx n D m j d c) a) i e).2)), (7, .int (Int32.ofNat a)), (8, .int (Int32.ofNat (a + 1 + i)))]) (st' := [.int (Int32.ofNat (a + 1 + i)), .int (Int32.ofNat a), .int (Int32.ofNat d), .int (Int32.ofNat j), .ref 0]) (s' := T) rfl ?_
      refine yp_vi rfl rfl rfl rfl (c_tryE hn hD hj (by omega) (by omega) (by omega) b20 b21 b22 hW (fun U fU hU => ?_))
      rw [hm] at hU
      have uW := hU.2.2.2.2.2.2.2.2
      have hUF := finF_kept hT9 fU uW
      refine yp_run 4 (pc' := 90) (lv' := [(0, .ref 0), (1, .int (Int32.ofNat j)), (2, .int (Int32.ofNat d)), (3, .int (Int32.ofNat c)), (4, .int (Int32.ofNat c)), (5, .int ((itf (bis (vx n D m j d c) a) i e).1)), (6, .int ((itf (bis (vx n D m j d c) a) i e).2)), (7, .int (Int32.ofNat a)), (8, .int (Int32.ofNat (a + 1 + i)))]) (st' := [.int (Int32.ofNat c), .ref 59]) (s' := U) rfl ?_
      have gE : rget U 59 (Int32.ofNat c) = vx n D m j d c a (a + 1 + i) := (rget_i (by show c < 8; omega)).trans (hU.2.2.2.2.2.1 c hc)
      refine yp_vi rfl rfl rfl rfl (c_rgetv rfl gE ?_)
      refine yp_run 3 (pc' := 99) (lv' := [(0, .ref 0), (1, .int (Int32.ofNat j)), (2, .int (Int32.ofNat d)), (3, .int (Int32.ofNat c)), (4, .int (Int32.ofNat c)), (5, .int ((itf (bis (vx n D m j d c) a) i e).1)), (6, .int ((itf (bis (vx n D m j d c) a) i e).2)), (7, .int (Int32.ofNat a)), (8, .int (Int32.ofNat (a + 1 + i))), (9, .int (vx n D m j d c a (a + 1 + i)))]) (st' := [.int ((itf (bis (vx n D m j d c) a) i e).1), .int (vx n D m j d c a (a + 1 + i))]) (s' := U) rfl ?_
      refine yp_icmp rfl rfl (fun h99 => ?_) (fun h99 => ?_)
      · refine yp_run 2 (pc' := 59) (lv' := [(0, .ref 0), (1, .int (Int32.ofNat j)), (2, .int (Int32.ofNat d)), (3, .int (Int32.ofNat c)), (4, .int (Int32.ofNat c)), (5, .int ((itf (bis (vx n D m j d c) a) i e).1)), (6, .int ((itf (bis (vx n D m j d c) a) i e).2)), (7, .int (Int32.ofNat a)), (8, .int ((Int32.ofNat (a + 1 + i)) + 1)), (9, .int (vx n D m j d c a (a + 1 + i)))]) (st' := []) (s' := U) rfl ?_
        have e9 : itf (bis (vx n D m j d c) a) (i + 1) e = (((itf (bis (vx n D m j d c) a) i e).1), ((itf (bis (vx n D m j d c) a) i e).2)) := by
          show (bif xcmp .ge (vx n D m j d c a (a + 1 + i)) (itf (bis (vx n D m j d c) a) i e).1 then _ else _) = _
          rw [h99]
          rfl
        have e8 := ih (i + 1) U (by omega) hUF kk
        rw [e9] at e8
        rw [i32_s]
        refine yp_sel [0, 1, 2, 3, 4, 5, 6, 7, 8] ?_
        exact e8
      · refine yp_run 6 (pc' := 114) (lv' := [(0, .ref 0), (1, .int (Int32.ofNat j)), (2, .int (Int32.ofNat d)), (3, .int (Int32.ofNat c)), (4, .int (Int32.ofNat c)), (5, .int (vx n D m j d c a (a + 1 + i))), (6, .int ((itf (bis (vx n D m j d c) a) i e).2)), (7, .int (Int32.ofNat a)), (8, .int (Int32.ofNat (a + 1 + i))), (9, .int (vx n D m j d c a (a + 1 + i)))]) (st' := [.int (Int32.ofNat a), .ref 15, .int 10]) (s' := U) rfl ?_
        have u12 : U 15 2 = all (Int32.ofNat n) := (congrFun (fU 15 (by decide)) 2).trans b12
        refine yp_vi rfl rfl rfl rfl (c_memb (by omega) (by omega) u12 ?_)
        refine yp_run 4 (pc' := 124) (lv' := [(0, .ref 0), (1, .int (Int32.ofNat j)), (2, .int (Int32.ofNat d)), (3, .int (Int32.ofNat c)), (4, .int (Int32.ofNat c)), (5, .int (vx n D m j d c a (a + 1 + i))), (6, .int ((itf (bis (vx n D m j d c) a) i e).2)), (7, .int (Int32.ofNat a)), (8, .int (Int32.ofNat (a + 1 + i))), (9, .int (vx n D m j d c a (a + 1 + i)))]) (st' := [.int (Int32.ofNat (a + 1 + i)), .ref 15, .int (10 * (Int32.ofNat a))]) (s' := U) rfl ?_
        have u12 : U 15 2 = all (Int32.ofNat n) := (congrFun (fU 15 (by decide)) 2).trans b12
        refine yp_vi rfl rfl rfl rfl (c_memb (by omega) (by omega) u12 ?_)
        refine yp_run 4 (pc' := 59) (lv' := [(0, .ref 0), (1, .int (Int32.ofNat j)), (2, .int (Int32.ofNat d)), (3, .int (Int32.ofNat c)), (4, .int (Int32.ofNat c)), (5, .int (vx n D m j d c a (a + 1 + i))), (6, .int ((10 * (Int32.ofNat a)) + (Int32.ofNat (a + 1 + i)))), (7, .int (Int32.ofNat a)), (8, .int ((Int32.ofNat (a + 1 + i)) + 1)), (9, .int (vx n D m j d c a (a + 1 + i)))]) (st' := []) (s' := U) rfl ?_
        have e9 : itf (bis (vx n D m j d c) a) (i + 1) e = ((vx n D m j d c a (a + 1 + i)), ((10 * (Int32.ofNat a)) + (Int32.ofNat (a + 1 + i)))) := by
          show (bif xcmp .ge (vx n D m j d c a (a + 1 + i)) (itf (bis (vx n D m j d c) a) i e).1 then _ else _) = _
          rw [h99]
          rfl
        have e8 := ih (i + 1) U (by omega) hUF kk
        rw [e9] at e8
        rw [i32_s]
        refine yp_sel [0, 1, 2, 3, 4, 5, 6, 7, 8] ?_
        exact e8
theorem lz_bx {n D J : Nat} {P : Int32} {cl jc m : Nat → Int32} {j d c : Nat} {e : Int32 × Int32} (hD : D ≤ 5) (hn : n ≤ 7) (hj : j < 7) (hd : d < D) (hc : c < n) : ∀ (k a : Nat) (T : yS), a + k = n → finF T n D J P cl jc m →
    (∀ U : yS, finF U n D J P cl jc m → Yp sd 45 142 [(0, .ref 0), (1, .int (Int32.ofNat j)), (2, .int (Int32.ofNat d)), (3, .int (Int32.ofNat c)), (4, .int (Int32.ofNat c)), (5, .int ((itf (bos (vx n D m j d c) n) n e).1)), (6, .int ((itf (bos (vx n D m j d c) n) n e).2)), (7, .int (Int32.ofNat n))] [] U Φ) → Yp sd 45 41 [(0, .ref 0), (1, .int (Int32.ofNat j)), (2, .int (Int32.ofNat d)), (3, .int (Int32.ofNat c)), (4, .int (Int32.ofNat c)), (5, .int ((itf (bos (vx n D m j d c) n) a e).1)), (6, .int ((itf (bos (vx n D m j d c) n) a e).2)), (7, .int (Int32.ofNat a))] [] T Φ := by
  intro k
  induction k with
  | zero =>
    intro a T hi hT kk
    have b20 := hT.1.2.2.2.2.2.2.2.2.2.2.2.2.2.2.2.2.2.2.2.2.1
    refine yp_run 4 (pc' := 50) (lv' := [(0, .ref 0), (1, .int (Int32.ofNat j)), (2, .int (Int32.ofNat d)), (3, .int (Int32.ofNat c)), (4, .int (Int32.ofNat c)), (5, .int ((itf (bos (vx n D m j d c) n) a e).1)), (6, .int ((itf (bos (vx n D m j d c) n) a e).2)), (7, .int (Int32.ofNat a))]) (st' := [.int (T 25 0), .int (Int32.ofNat a)]) (s' := T) rfl ?_
    refine yp_icmp rfl rfl (fun h => ?_) (fun h => ?_)
    · rw [show a = n by omega]
      exact kk T hT
    · have h := xN (xc_ge _ _) h
      rw [b20, i32_to (by omega), i32_to (by omega)] at h
      omega
  | succ k ih =>
    intro a T hi hT kk
    have b20 := hT.1.2.2.2.2.2.2.2.2.2.2.2.2.2.2.2.2.2.2.2.2.1
    refine yp_run 4 (pc' := 50) (lv' := [(0, .ref 0), (1, .int (Int32.ofNat j)), (2, .int (Int32.ofNat d)), (3, .int (Int32.ofNat c)), (4, .int (Int32.ofNat c)), (5, .int ((itf (bos (vx n D m j d c) n) a e).1)), (6, .int ((itf (bos (vx n D m j d c) n) a e).2)), (7, .int (Int32.ofNat a))]) (st' := [.int (T 25 0), .int (Int32.ofNat a)]) (s' := T) rfl ?_
    refine yp_icmp rfl rfl (fun h => ?_) (fun h => ?_)
    · have h := xT (xc_ge _ _) h
      rw [b20, i32_to (by omega), i32_to (by omega)] at h
      omega
    · refine yp_run 4 (pc' := 59) (lv' := [(0, .ref 0), (1, .int (Int32.ofNat j)), (2, .int (Int32.ofNat d)), (3, .int (Int32.ofNat c)), (4, .int (Int32.ofNat c)), (5, .int ((itf (bos (vx n D m j d c) n) a e).1)), (6, .int ((itf (bos (vx n D m j d c) n) a e).2)), (7, .int (Int32.ofNat a)), (8, .int ((Int32.ofNat a) + 1))]) (st' := []) (s' := T) rfl ?_
      rw [i32_s]
      refine lz_bi (e := (itf (bos (vx n D m j d c) n) a e)) hD hn hj hd hc (by omega) (n - (a + 1)) 0 T (Nat.zero_add _) hT (fun U hU => ?_)
      refine yp_run 2 (pc' := 41) (lv' := [(0, .ref 0), (1, .int (Int32.ofNat j)), (2, .int (Int32.ofNat d)), (3, .int (Int32.ofNat c)), (4, .int (Int32.ofNat c)), (5, .int ((itf (bos (vx n D m j d c) n) (a + 1) e).1)), (6, .int ((itf (bos (vx n D m j d c) n) (a + 1) e).2)), (7, .int ((Int32.ofNat a) + 1))]) (st' := []) (s' := U) rfl ?_
      rw [i32_s]
      exact ih (a + 1) U (by omega) hU kk
def bst (n D : Nat) (m : Nat → Int32) (j d c : Nat) : Int32 := (itf (bos (vx n D m j d c) n) n (EPf n D (ef 0 m) c, -1)).2
theorem c_best {n D J : Nat} {P : Int32} {cl jc m : Nat → Int32} {j d c : Nat} (hD : D ≤ 5) (hn : n ≤ 7) (hF : finF s n D J P cl jc m) (hj : j < 7) (hd : d < D) (hh : m ((j * 5 + d) * 8) ≠ 0) (hc : c < n) (kk : ∀ U : yS, finF U n D J P cl jc m → Φ (some (.int (bst n D m j d c))) U) : Yq sd 45 [.ref 0, .int (Int32.ofNat j), .int (Int32.ofNat d), .int (Int32.ofNat c)] s Φ := by
  refine Yq.of rfl (Nat.le_of_ble_eq_true rfl) ?_
  have hF9 := hF
  obtain ⟨⟨b0, b1, b2, b3, b4, b5, b6, b7, b8, b9, b10, b11, b12, b13, b14, b15, b16, b17, b18, b19, b20, b21, b22⟩, hm, hs, hW⟩ := hF
  obtain ⟨s0, s1, sP, sR, sT, sE, sQ, sN, sW⟩ := hs
  refine yp_run 3 (pc' := 3) (lv' := [(0, .ref 0), (1, .int (Int32.ofNat j)), (2, .int (Int32.ofNat d)), (3, .int (Int32.ofNat c))]) (st' := [.int (Int32.ofNat d), .int (Int32.ofNat j), .ref 0]) (s' := s) rfl ?_
  refine yp_vi rfl rfl rfl rfl (c_nShe b0 (hass_i hj (by omega) (by rw [hm]; exact hh)) ?_)
  refine yp_run 2 (pc' := 8) (lv' := [(0, .ref 0), (1, .int (Int32.ofNat j)), (2, .int (Int32.ofNat d)), (3, .int (Int32.ofNat c))]) (st' := [.int (Int32.ofNat c), .ref 0]) (s' := s) rfl ?_
  refine yp_vi rfl rfl rfl rfl (c_nFinv (by omega) hc b0 b12 ?_)
  refine yp_run 3 (pc' := 16) (lv' := [(0, .ref 0), (1, .int (Int32.ofNat j)), (2, .int (Int32.ofNat d)), (3, .int (Int32.ofNat c))]) (st' := [.int (Int32.ofNat c), .ref 15]) (s' := s) rfl ?_
  refine yp_vi rfl rfl rfl rfl (c_posv (by omega) hc b12 ?_)
  refine yp_run 5 (pc' := 30) (lv' := [(0, .ref 0), (1, .int (Int32.ofNat j)), (2, .int (Int32.ofNat d)), (3, .int (Int32.ofNat c)), (4, .int (Int32.ofNat c))]) (st' := [.int (Int32.ofNat c), .ref 37]) (s' := s) rfl ?_
  have gE : rget s 37 (Int32.ofNat c) = EPf n D (ef 0 m) c := (rget_i (by show c < 8; omega)).trans (sE c hc)
  refine yp_vi rfl rfl rfl rfl (c_rgetv rfl gE ?_)
  refine yp_run 5 (pc' := 41) (lv' := [(0, .ref 0), (1, .int (Int32.ofNat j)), (2, .int (Int32.ofNat d)), (3, .int (Int32.ofNat c)), (4, .int (Int32.ofNat c)), (5, .int (EPf n D (ef 0 m) c)), (6, .int (-1)), (7, .int 0)]) (st' := []) (s' := s) rfl ?_
  exact lz_bx (e := (EPf n D (ef 0 m) c, -1)) hD hn hj hd hc n 0 s (Nat.zero_add n) hF9 (fun U hU => yp_run 1 rfl (yp_ri rfl rfl (kk U hU)))
end YAB
