/-! what one asks of a final -/
section YAD
variable {sd : Option (List Int32)} {μ pc : Nat} {lv : xL} {st : List Value} {s : yS} {Φ : Option Value → yS → Prop}
def mnV (n D J : Nat) (P : Int32) (m : Nat → Int32) : Nat → Int32
  | 0 => (Int32.ofNat n)
  | 1 => (Int32.ofNat J)
  | 2 => 0
  | 3 => 1
  | 4 => 1
  | 5 => 0
  | 6 => (Int32.ofNat D)
  | 7 => 0
  | 8 => (all (Int32.ofNat n))
  | 9 => (bc6 P)
  | _ => (sha (hdn m) D)
theorem c_man0 {n D J : Nat} {P : Int32} {cl jc m : Nat → Int32} (hD : D ≤ 5) (hn : n ≤ 7) (hF : finF s n D J P cl jc m) (kk : Φ (some (.int (Int32.ofNat n))) s) : Yq sd 51 [.ref 0, .int 0] s Φ := by
  refine Yq.of rfl (Nat.le_of_ble_eq_true rfl) ?_
  obtain ⟨⟨b0, b1, b2, b3, b4, b5, b6, b7, b8, b9, b10, b11, b12, b13, b14, b15, b16, b17, b18, b19, b20, b21, b22⟩, hm, hs, hW⟩ := hF
  obtain ⟨s0, s1, sP, sR, sT, sE, sQ, sN, sW⟩ := hs
  refine yp_run 1 (pc' := 1) (lv' := [(0, .ref 0), (1, .int 0)]) (st' := [.int 0]) (s' := s) rfl ?_
  refine yp_run 1 (pc' := 60) (lv' := [(0, .ref 0), (1, .int 0)]) (st' := []) (s' := s) rfl ?_
  refine yp_run 3 (pc' := 67) (lv' := [(0, .ref 0), (1, .int 0)]) (st' := [.int (s 1 0)]) (s' := s) rfl ?_
  rw [b2]
  refine yp_ri rfl rfl ?_
  exact kk
theorem c_man1 {n D J : Nat} {P : Int32} {cl jc m : Nat → Int32} (hD : D ≤ 5) (hn : n ≤ 7) (hF : finF s n D J P cl jc m) (kk : Φ (some (.int (Int32.ofNat J))) s) : Yq sd 51 [.ref 0, .int 1] s Φ := by
  refine Yq.of rfl (Nat.le_of_ble_eq_true rfl) ?_
  obtain ⟨⟨b0, b1, b2, b3, b4, b5, b6, b7, b8, b9, b10, b11, b12, b13, b14, b15, b16, b17, b18, b19, b20, b21, b22⟩, hm, hs, hW⟩ := hF
  obtain ⟨s0, s1, sP, sR, sT, sE, sQ, sN, sW⟩ := hs
  refine yp_run 1 (pc' := 1) (lv' := [(0, .ref 0), (1, .int 1)]) (st' := [.int 1]) (s' := s) rfl ?_
  refine yp_run 1 (pc' := 68) (lv' := [(0, .ref 0), (1, .int 1)]) (st' := []) (s' := s) rfl ?_
  refine yp_run 3 (pc' := 75) (lv' := [(0, .ref 0), (1, .int 1)]) (st' := [.int (s 10 0)]) (s' := s) rfl ?_
  rw [b7]
  refine yp_ri rfl rfl ?_
  exact kk
theorem c_man2 {n D J : Nat} {P : Int32} {cl jc m : Nat → Int32} (hD : D ≤ 5) (hn : n ≤ 7) (hF : finF s n D J P cl jc m) (kk : Φ (some (.int 0)) s) : Yq sd 51 [.ref 0, .int 2] s Φ := by
  refine Yq.of rfl (Nat.le_of_ble_eq_true rfl) ?_
  obtain ⟨⟨b0, b1, b2, b3, b4, b5, b6, b7, b8, b9, b10, b11, b12, b13, b14, b15, b16, b17, b18, b19, b20, b21, b22⟩, hm, hs, hW⟩ := hF
  obtain ⟨s0, s1, sP, sR, sT, sE, sQ, sN, sW⟩ := hs
  refine yp_run 1 (pc' := 1) (lv' := [(0, .ref 0), (1, .int 2)]) (st' := [.int 2]) (s' := s) rfl ?_
  refine yp_run 1 (pc' := 76) (lv' := [(0, .ref 0), (1, .int 2)]) (st' := []) (s' := s) rfl ?_
  refine yp_run 2 (pc' := 80) (lv' := [(0, .ref 0), (1, .int 2)]) (st' := [.int (s 0 8)]) (s' := s) rfl ?_
  rw [b1]
  refine yp_ri rfl rfl ?_
  exact kk
theorem c_man3 {n D J : Nat} {P : Int32} {cl jc m : Nat → Int32} (hD : D ≤ 5) (hn : n ≤ 7) (hF : finF s n D J P cl jc m) (kk : Φ (some (.int 1)) s) : Yq sd 51 [.ref 0, .int 3] s Φ := by
  refine Yq.of rfl (Nat.le_of_ble_eq_true rfl) ?_
  obtain ⟨⟨b0, b1, b2, b3, b4, b5, b6, b7, b8, b9, b10, b11, b12, b13, b14, b15, b16, b17, b18, b19, b20, b21, b22⟩, hm, hs, hW⟩ := hF
  obtain ⟨s0, s1, sP, sR, sT, sE, sQ, sN, sW⟩ := hs
  refine yp_run 1 (pc' := 1) (lv' := [(0, .ref 0), (1, .int 3)]) (st' := [.int 3]) (s' := s) rfl ?_
  refine yp_run 1 (pc' := 81) (lv' := [(0, .ref 0), (1, .int 3)]) (st' := []) (s' := s) rfl ?_
  refine yp_run 3 (pc' := 88) (lv' := [(0, .ref 0), (1, .int 3)]) (st' := [.int (s 15 0)]) (s' := s) rfl ?_
  refine yp_if rfl rfl (fun h88 => ?_) (fun h88 => ?_)
  · rw [b10] at h88; cases h88
  · refine yp_run 2 (pc' := 96) (lv' := [(0, .ref 0), (1, .int 3)]) (st' := [.int 1]) (s' := s) rfl ?_
    refine yp_ri rfl rfl ?_
    exact kk
theorem c_man4 {n D J : Nat} {P : Int32} {cl jc m : Nat → Int32} (hD : D ≤ 5) (hn : n ≤ 7) (hF : finF s n D J P cl jc m) (kk : Φ (some (.int 1)) s) : Yq sd 51 [.ref 0, .int 4] s Φ := by
  refine Yq.of rfl (Nat.le_of_ble_eq_true rfl) ?_
  obtain ⟨⟨b0, b1, b2, b3, b4, b5, b6, b7, b8, b9, b10, b11, b12, b13, b14, b15, b16, b17, b18, b19, b20, b21, b22⟩, hm, hs, hW⟩ := hF
  obtain ⟨s0, s1, sP, sR, sT, sE, sQ, sN, sW⟩ := hs
  refine yp_run 1 (pc' := 1) (lv' := [(0, .ref 0), (1, .int 4)]) (st' := [.int 4]) (s' := s) rfl ?_
  refine yp_run 1 (pc' := 97) (lv' := [(0, .ref 0), (1, .int 4)]) (st' := []) (s' := s) rfl ?_
  refine yp_run 2 (pc' := 101) (lv' := [(0, .ref 0), (1, .int 4)]) (st' := [.int (s 0 7)]) (s' := s) rfl ?_
  refine yp_if rfl rfl (fun h101 => ?_) (fun h101 => ?_)
  · rw [b0] at h101; cases h101
  · refine yp_run 2 (pc' := 109) (lv' := [(0, .ref 0), (1, .int 4)]) (st' := [.int 1]) (s' := s) rfl ?_
    refine yp_ri rfl rfl ?_
    exact kk
theorem c_man5 {n D J : Nat} {P : Int32} {cl jc m : Nat → Int32} (hD : D ≤ 5) (hn : n ≤ 7) (hF : finF s n D J P cl jc m) (kk : Φ (some (.int 0)) s) : Yq sd 51 [.ref 0, .int 5] s Φ := by
  refine Yq.of rfl (Nat.le_of_ble_eq_true rfl) ?_
  obtain ⟨⟨b0, b1, b2, b3, b4, b5, b6, b7, b8, b9, b10, b11, b12, b13, b14, b15, b16, b17, b18, b19, b20, b21, b22⟩, hm, hs, hW⟩ := hF
  obtain ⟨s0, s1, sP, sR, sT, sE, sQ, sN, sW⟩ := hs
  refine yp_run 1 (pc' := 1) (lv' := [(0, .ref 0), (1, .int 5)]) (st' := [.int 5]) (s' := s) rfl ?_
  refine yp_run 1 (pc' := 110) (lv' := [(0, .ref 0), (1, .int 5)]) (st' := []) (s' := s) rfl ?_
  refine yp_run 3 (pc' := 117) (lv' := [(0, .ref 0), (1, .int 5)]) (st' := [.int (s 15 5)]) (s' := s) rfl ?_
  rw [b15]
  refine yp_ri rfl rfl ?_
  exact kk
theorem c_man6 {n D J : Nat} {P : Int32} {cl jc m : Nat → Int32} (hD : D ≤ 5) (hn : n ≤ 7) (hF : finF s n D J P cl jc m) (kk : Φ (some (.int (Int32.ofNat D))) s) : Yq sd 51 [.ref 0, .int 6] s Φ := by
  refine Yq.of rfl (Nat.le_of_ble_eq_true rfl) ?_
  obtain ⟨⟨b0, b1, b2, b3, b4, b5, b6, b7, b8, b9, b10, b11, b12, b13, b14, b15, b16, b17, b18, b19, b20, b21, b22⟩, hm, hs, hW⟩ := hF
  obtain ⟨s0, s1, sP, sR, sT, sE, sQ, sN, sW⟩ := hs
  refine yp_run 1 (pc' := 1) (lv' := [(0, .ref 0), (1, .int 6)]) (st' := [.int 6]) (s' := s) rfl ?_
  refine yp_run 1 (pc' := 118) (lv' := [(0, .ref 0), (1, .int 6)]) (st' := []) (s' := s) rfl ?_
  refine yp_run 3 (pc' := 125) (lv' := [(0, .ref 0), (1, .int 6)]) (st' := [.int (s 15 4)]) (s' := s) rfl ?_
  rw [b14]
  refine yp_ri rfl rfl ?_
  exact kk
theorem c_man7 {n D J : Nat} {P : Int32} {cl jc m : Nat → Int32} (hD : D ≤ 5) (hn : n ≤ 7) (hF : finF s n D J P cl jc m) (kk : Φ (some (.int 0)) s) : Yq sd 51 [.ref 0, .int 7] s Φ := by
  refine Yq.of rfl (Nat.le_of_ble_eq_true rfl) ?_
  obtain ⟨⟨b0, b1, b2, b3, b4, b5, b6, b7, b8, b9, b10, b11, b12, b13, b14, b15, b16, b17, b18, b19, b20, b21, b22⟩, hm, hs, hW⟩ := hF
  obtain ⟨s0, s1, sP, sR, sT, sE, sQ, sN, sW⟩ := hs
  refine yp_run 1 (pc' := 1) (lv' := [(0, .ref 0), (1, .int 7)]) (st' := [.int 7]) (s' := s) rfl ?_
  refine yp_run 1 (pc' := 126) (lv' := [(0, .ref 0), (1, .int 7)]) (st' := []) (s' := s) rfl ?_
  refine yp_run 3 (pc' := 133) (lv' := [(0, .ref 0), (1, .int 7)]) (st' := [.int (s 18 2)]) (s' := s) rfl ?_
  rw [b17]
  refine yp_ri rfl rfl ?_
  exact kk
theorem c_man8 {n D J : Nat} {P : Int32} {cl jc m : Nat → Int32} (hD : D ≤ 5) (hn : n ≤ 7) (hF : finF s n D J P cl jc m) (kk : Φ (some (.int (all (Int32.ofNat n)))) s) : Yq sd 51 [.ref 0, .int 8] s Φ := by
  refine Yq.of rfl (Nat.le_of_ble_eq_true rfl) ?_
  obtain ⟨⟨b0, b1, b2, b3, b4, b5, b6, b7, b8, b9, b10, b11, b12, b13, b14, b15, b16, b17, b18, b19, b20, b21, b22⟩, hm, hs, hW⟩ := hF
  obtain ⟨s0, s1, sP, sR, sT, sE, sQ, sN, sW⟩ := hs
  refine yp_run 1 (pc' := 1) (lv' := [(0, .ref 0), (1, .int 8)]) (st' := [.int 8]) (s' := s) rfl ?_
  refine yp_run 1 (pc' := 134) (lv' := [(0, .ref 0), (1, .int 8)]) (st' := []) (s' := s) rfl ?_
  refine yp_run 3 (pc' := 141) (lv' := [(0, .ref 0), (1, .int 8)]) (st' := [.int (s 15 2)]) (s' := s) rfl ?_
  rw [b12]
  refine yp_ri rfl rfl ?_
  exact kk
theorem c_man9 {n D J : Nat} {P : Int32} {cl jc m : Nat → Int32} (hD : D ≤ 5) (hn : n ≤ 7) (hF : finF s n D J P cl jc m) (kk : Φ (some (.int (bc6 P))) s) : Yq sd 51 [.ref 0, .int 9] s Φ := by
  refine Yq.of rfl (Nat.le_of_ble_eq_true rfl) ?_
  obtain ⟨⟨b0, b1, b2, b3, b4, b5, b6, b7, b8, b9, b10, b11, b12, b13, b14, b15, b16, b17, b18, b19, b20, b21, b22⟩, hm, hs, hW⟩ := hF
  obtain ⟨s0, s1, sP, sR, sT, sE, sQ, sN, sW⟩ := hs
  refine yp_run 1 (pc' := 1) (lv' := [(0, .ref 0), (1, .int 9)]) (st' := [.int 9]) (s' := s) rfl ?_
  refine yp_run 1 (pc' := 142) (lv' := [(0, .ref 0), (1, .int 9)]) (st' := []) (s' := s) rfl ?_
  refine yp_run 3 (pc' := 149) (lv' := [(0, .ref 0), (1, .int 9)]) (st' := [.int (s 15 3)]) (s' := s) rfl ?_
  rw [b13]
  refine yp_st rfl rfl (c_bits ?_)
  refine yp_ri rfl rfl ?_
  exact kk
theorem c_man10 {n D J : Nat} {P : Int32} {cl jc m : Nat → Int32} (hD : D ≤ 5) (hn : n ≤ 7) (hF : finF s n D J P cl jc m) (kk : Φ (some (.int (sha (hdn m) D))) s) : Yq sd 51 [.ref 0, .int 10] s Φ := by
  refine Yq.of rfl (Nat.le_of_ble_eq_true rfl) ?_
  obtain ⟨⟨b0, b1, b2, b3, b4, b5, b6, b7, b8, b9, b10, b11, b12, b13, b14, b15, b16, b17, b18, b19, b20, b21, b22⟩, hm, hs, hW⟩ := hF
  obtain ⟨s0, s1, sP, sR, sT, sE, sQ, sN, sW⟩ := hs
  refine yp_run 1 (pc' := 1) (lv' := [(0, .ref 0), (1, .int 10)]) (st' := [.int 10]) (s' := s) rfl ?_
  refine yp_run 1 (pc' := 153) (lv' := [(0, .ref 0), (1, .int 10)]) (st' := []) (s' := s) rfl ?_
  refine yp_run 2 (pc' := 157) (lv' := [(0, .ref 0), (1, .int 10)]) (st' := [.ref 25]) (s' := s) rfl ?_
  refine yp_vi rfl rfl rfl rfl (c_ofA (HH := hdn m) hD b21 (fun a b h1 h2 => by rw [has_i h1 (by omega), hm]; rfl) ?_)
  refine yp_ri rfl rfl ?_
  exact kk
theorem c_many {n D J : Nat} {P : Int32} {cl jc m : Nat → Int32} {w : Nat} (hw : w < 11) (hD : D ≤ 5) (hn : n ≤ 7) (hF : finF s n D J P cl jc m) (kk : Φ (some (.int (mnV n D J P m w))) s) : Yq sd 51 [.ref 0, .int (Int32.ofNat w)] s Φ := by
  rcases (show w = 0 ∨ w = 1 ∨ w = 2 ∨ w = 3 ∨ w = 4 ∨ w = 5 ∨ w = 6 ∨ w = 7 ∨ w = 8 ∨ w = 9 ∨ w = 10 by omega) with rfl | rfl | rfl | rfl | rfl | rfl | rfl | rfl | rfl | rfl | rfl
  · exact c_man0 hD hn hF kk
  · exact c_man1 hD hn hF kk
  · exact c_man2 hD hn hF kk
  · exact c_man3 hD hn hF kk
  · exact c_man4 hD hn hF kk
  · exact c_man5 hD hn hF kk
  · exact c_man6 hD hn hF kk
  · exact c_man7 hD hn hF kk
  · exact c_man8 hD hn hF kk
  · exact c_man9 hD hn hF kk
  · exact c_man10 hD hn hF kk
theorem lz_st0 {c : Nat} (hc : c < 10) (b6 : ∀ j, j < 50 → s 9 j = 0) (kk : Yp sd 56 82 [(0, .ref 1), (1, .int (Int32.ofNat c)), (2, .int 0), (3, .int 0), (4, .int 0), (5, .int (Int32.ofNat 5))] [] s Φ) : ∀ k i : Nat, i + k = 5 → Yp sd 56 10 [(0, .ref 1), (1, .int (Int32.ofNat c)), (2, .int 0), (3, .int 0), (4, .int 0), (5, .int (Int32.ofNat i))] [] s Φ := by
  intro k
  induction k with
  | zero =>
    intro i hi
    refine yp_run 2 (pc' := 13) (lv' := [(0, .ref 1), (1, .int (Int32.ofNat c)), (2, .int 0), (3, .int 0), (4, .int 0), (5, .int (Int32.ofNat i))]) (st' := [.int 5, .int (Int32.ofNat i)]) (s' := s) rfl ?_
    refine yp_icmp rfl rfl (fun h => ?_) (fun h => ?_)
    · rw [show i = 5 by omega]
      exact kk
    · have h := xN (xc_ge _ _) h
      rw [show (5 : Int32).toInt = 5 from rfl, i32_to (by omega)] at h
      omega
  | succ k ih =>
    intro i hi
    refine yp_run 2 (pc' := 13) (lv' := [(0, .ref 1), (1, .int (Int32.ofNat c)), (2, .int 0), (3, .int 0), (4, .int 0), (5, .int (Int32.ofNat i))]) (st' := [.int 5, .int (Int32.ofNat i)]) (s' := s) rfl ?_
    refine yp_icmp rfl rfl (fun h => ?_) (fun h => ?_)
    · have h := xT (xc_ge _ _) h
      rw [show (5 : Int32).toInt = 5 from rfl, i32_to (by omega)] at h
      omega
    · have hz9 : (0 : Int32) * (5 - Int32.ofNat i) = 0 := Int32.zero_mul
      refine yp_run 4 (pc' := 23) (lv' := [(0, .ref 1), (1, .int (Int32.ofNat c)), (2, .int 0), (3, .int 0), (4, .int 0), (5, .int (Int32.ofNat i))]) (st' := [.int (Int32.ofNat i), .int (Int32.ofNat c), .ref 8]) (s' := s) rfl ?_
      have g0 : gget s 8 (Int32.ofNat c) (Int32.ofNat i) = 0 := (gget_i (k := 8) (by show i < 5; omega) (by decide) (by show c * 5 + i < 50; omega)).trans (b6 _ (by show c * 5 + i < 50; omega))
      refine yp_vi rfl rfl rfl rfl (c_ggetv rfl g0 ?_)
      refine yp_run 7 (pc' := 36) (lv' := [(0, .ref 1), (1, .int (Int32.ofNat c)), (2, .int 0), (3, .int 0), (4, .int 0), (5, .int (Int32.ofNat i)), (6, .int (0 * (5 - (Int32.ofNat i))))]) (st' := [.int 0, .int (0 * (5 - (Int32.ofNat i)))]) (s' := s) rfl ?_
      refine yp_icmp rfl rfl (fun h36 => ?_) (fun h36 => ?_)
      · refine yp_run 2 (pc' := 53) (lv' := [(0, .ref 1), (1, .int (Int32.ofNat c)), (2, .int 0), (3, .int 0), (4, .int 0), (5, .int (Int32.ofNat i)), (6, .int (0 * (5 - (Int32.ofNat i))))]) (st' := [.int 0, .int (0 * (5 - (Int32.ofNat i)))]) (s' := s) rfl ?_
        refine yp_icmp rfl rfl (fun h53 => ?_) (fun h53 => ?_)
        · refine yp_run 2 (pc' := 69) (lv' := [(0, .ref 1), (1, .int (Int32.ofNat c)), (2, .int 0), (3, .int 0), (4, .int 0), (5, .int (Int32.ofNat i)), (6, .int (0 * (5 - (Int32.ofNat i))))]) (st' := [.int 0, .int (0 * (5 - (Int32.ofNat i)))]) (s' := s) rfl ?_
          refine yp_icmp rfl rfl (fun h69 => ?_) (fun h69 => ?_)
          · refine yp_run 2 (pc' := 10) (lv' := [(0, .ref 1), (1, .int (Int32.ofNat c)), (2, .int 0), (3, .int 0), (4, .int 0), (5, .int ((Int32.ofNat i) + 1)), (6, .int (0 * (5 - (Int32.ofNat i))))]) (st' := []) (s' := s) rfl ?_
            rw [i32_s]
            refine yp_sel [0, 1, 2, 3, 4, 5] ?_
            exact ih (i + 1) (by omega)
          · rw [h36] at h69
            cases h69
        · rw [h36] at h53
          cases h53
      · rw [hz9] at h36; cases h36
theorem c_stan {c : Nat} (hc : c < 10) (b6 : ∀ j, j < 50 → s 9 j = 0) (kk : Φ (some (.int 0)) s) : Yq sd 56 [.ref 1, .int (Int32.ofNat c)] s Φ := by
  refine Yq.of rfl (Nat.le_of_ble_eq_true rfl) ?_
  refine yp_run 8 (pc' := 10) (lv' := [(0, .ref 1), (1, .int (Int32.ofNat c)), (2, .int 0), (3, .int 0), (4, .int 0), (5, .int 0)]) (st' := []) (s' := s) rfl ?_
  exact lz_st0 hc b6 (yp_run 5 (pc' := 88) (lv' := [(0, .ref 1), (1, .int (Int32.ofNat c)), (2, .int 0), (3, .int 0), (4, .int 0), (5, .int (Int32.ofNat 5))]) (st' := [.int 0]) rfl (yp_ri rfl rfl kk)) 5 0 rfl
theorem lz_ci0 {d : Nat} {x : Int32} (hd5 : d < 5) (b18 : ∀ j, j < 35 → s 20 j = 0) (kk : Yp sd 58 36 [(0, .ref 18), (1, .int (Int32.ofNat d)), (2, .int x), (3, .int 0), (4, .int (Int32.ofNat 7))] [] s Φ) : ∀ k i : Nat, i + k = 7 → Yp sd 58 5 [(0, .ref 18), (1, .int (Int32.ofNat d)), (2, .int x), (3, .int 0), (4, .int (Int32.ofNat i))] [] s Φ := by
  intro k
  induction k with
  | zero =>
    intro i hi
    refine yp_run 2 (pc' := 9) (lv' := [(0, .ref 18), (1, .int (Int32.ofNat d)), (2, .int x), (3, .int 0), (4, .int (Int32.ofNat i))]) (st' := [.int 7, .int (Int32.ofNat i)]) (s' := s) rfl ?_
    refine yp_icmp rfl rfl (fun h => ?_) (fun h => ?_)
    · rw [show i = 7 by omega]
      exact kk
    · have h := xN (xc_ge _ _) h
      rw [show (7 : Int32).toInt = 7 from rfl, i32_to (by omega)] at h
      omega
  | succ k ih =>
    intro i hi
    refine yp_run 2 (pc' := 9) (lv' := [(0, .ref 18), (1, .int (Int32.ofNat d)), (2, .int x), (3, .int 0), (4, .int (Int32.ofNat i))]) (st' := [.int 7, .int (Int32.ofNat i)]) (s' := s) rfl ?_
    refine yp_icmp rfl rfl (fun h => ?_) (fun h => ?_)
    · have h := xT (xc_ge _ _) h
      rw [show (7 : Int32).toInt = 7 from rfl, i32_to (by omega)] at h
      omega
    · refine yp_run 5 (pc' := 20) (lv' := [(0, .ref 18), (1, .int (Int32.ofNat d)), (2, .int x), (3, .int 0), (4, .int (Int32.ofNat i))]) (st' := [.int (Int32.ofNat d), .int (Int32.ofNat i), .ref 19, .int 0]) (s' := s) rfl ?_
      have g0 : gget s 19 (Int32.ofNat i) (Int32.ofNat d) = 0 := (gget_i (k := 19) (by show d < 5; omega) (by decide) (by show i * 5 + d < 35; omega)).trans (b18 _ (by show i * 5 + d < 35; omega))
      refine yp_vi rfl rfl rfl rfl (c_ggetv rfl g0 ?_)
      refine yp_run 2 (pc' := 25) (lv' := [(0, .ref 18), (1, .int (Int32.ofNat d)), (2, .int x), (3, .int 0), (4, .int (Int32.ofNat i))]) (st' := [.int (0 &&& x), .int 0]) (s' := s) rfl ?_
      rw [show (0 : Int32) &&& x = 0 from Int32.zero_and]
      refine yp_st rfl rfl (c_bits ?_)
      rw [show bc6 0 = 0 by decide]
      refine yp_run 4 (pc' := 5) (lv' := [(0, .ref 18), (1, .int (Int32.ofNat d)), (2, .int x), (3, .int (0 + 0)), (4, .int ((Int32.ofNat i) + 1))]) (st' := []) (s' := s) rfl ?_
      rw [show (0 : Int32) + 0 = 0 from rfl]
      rw [i32_s]
      refine yp_sel [0, 1, 2, 3, 4] ?_
      exact ih (i + 1) (by omega)
theorem c_crI {d : Nat} {x : Int32} (hd5 : d < 5) (b18 : ∀ j, j < 35 → s 20 j = 0) (kk : Φ (some (.int 0)) s) : Yq sd 58 [.ref 18, .int (Int32.ofNat d), .int x] s Φ := by
  refine Yq.of rfl (Nat.le_of_ble_eq_true rfl) ?_
  refine yp_run 4 (pc' := 5) (lv' := [(0, .ref 18), (1, .int (Int32.ofNat d)), (2, .int x), (3, .int 0), (4, .int 0)]) (st' := []) (s' := s) rfl ?_
  exact lz_ci0 hd5 b18 (yp_run 1 rfl (yp_ri rfl rfl kk)) 7 0 rfl
theorem lz_cr0 {c : Int32} (b18 : ∀ j, j < 35 → s 20 j = 0) (kk : Yp sd 57 26 [(0, .ref 18), (1, .int c), (2, .int 0), (3, .int (Int32.ofNat 5))] [] s Φ) : ∀ k i : Nat, i + k = 5 → Yp sd 57 4 [(0, .ref 18), (1, .int c), (2, .int 0), (3, .int (Int32.ofNat i))] [] s Φ := by
  intro k
  induction k with
  | zero =>
    intro i hi
    refine yp_run 2 (pc' := 6) (lv' := [(0, .ref 18), (1, .int c), (2, .int 0), (3, .int (Int32.ofNat i))]) (st' := [.int 5, .int (Int32.ofNat i)]) (s' := s) rfl ?_
    refine yp_icmp rfl rfl (fun h => ?_) (fun h => ?_)
    · rw [show i = 5 by omega]
      exact kk
    · have h := xN (xc_ge _ _) h
      rw [show (5 : Int32).toInt = 5 from rfl, i32_to (by omega)] at h
      omega
  | succ k ih =>
    intro i hi
    refine yp_run 2 (pc' := 6) (lv' := [(0, .ref 18), (1, .int c), (2, .int 0), (3, .int (Int32.ofNat i))]) (st' := [.int 5, .int (Int32.ofNat i)]) (s' := s) rfl ?_
    refine yp_icmp rfl rfl (fun h => ?_) (fun h => ?_)
    · have h := xT (xc_ge _ _) h
      rw [show (5 : Int32).toInt = 5 from rfl, i32_to (by omega)] at h
      omega
    · refine yp_run 6 (pc' := 15) (lv' := [(0, .ref 18), (1, .int c), (2, .int 0), (3, .int (Int32.ofNat i))]) (st' := [.int (1 <<< (c &&& 31)), .int (Int32.ofNat i), .ref 18, .int 0]) (s' := s) rfl ?_
      refine yp_vi rfl rfl rfl rfl (c_crI (by omega) b18 ?_)
      refine yp_run 4 (pc' := 4) (lv' := [(0, .ref 18), (1, .int c), (2, .int (0 + 0)), (3, .int ((Int32.ofNat i) + 1))]) (st' := []) (s' := s) rfl ?_
      rw [show (0 : Int32) + 0 = 0 from rfl]
      rw [i32_s]
      refine yp_sel [0, 1, 2, 3] ?_
      exact ih (i + 1) (by omega)
theorem c_crO {c : Int32} (b18 : ∀ j, j < 35 → s 20 j = 0) (kk : Φ (some (.int 0)) s) : Yq sd 57 [.ref 18, .int c] s Φ := by
  refine Yq.of rfl (Nat.le_of_ble_eq_true rfl) ?_
  refine yp_run 4 (pc' := 4) (lv' := [(0, .ref 18), (1, .int c), (2, .int 0), (3, .int 0)]) (st' := []) (s' := s) rfl ?_
  exact lz_cr0 b18 (yp_run 1 rfl (yp_ri rfl rfl kk)) 5 0 rfl
def ocV (cl : Nat → Int32) (c : Nat) : Nat → Int32
  | 0 => (cl c)
  | 1 => 0
  | 2 => 0
  | 3 => 1
  | 4 => 1
  | 5 => 0
  | 6 => 0
  | _ => -1
theorem c_ofc0 {n D J : Nat} {P : Int32} {cl jc m : Nat → Int32} {c : Nat} (hD : D ≤ 5) (hn : n ≤ 7) (hF : finF s n D J P cl jc m) (hc : c < n) (kk : Φ (some (.int (cl c))) s) : Yq sd 54 [.ref 0, .int (Int32.ofNat c), .int 0] s Φ := by
  refine Yq.of rfl (Nat.le_of_ble_eq_true rfl) ?_
  obtain ⟨⟨b0, b1, b2, b3, b4, b5, b6, b7, b8, b9, b10, b11, b12, b13, b14, b15, b16, b17, b18, b19, b20, b21, b22⟩, hm, hs, hW⟩ := hF
  obtain ⟨s0, s1, sP, sR, sT, sE, sQ, sN, sW⟩ := hs
  refine yp_run 2 (pc' := 2) (lv' := [(0, .ref 0), (1, .int (Int32.ofNat c)), (2, .int 0)]) (st' := [.int (Int32.ofNat c), .ref 0]) (s' := s) rfl ?_
  refine yp_vi rfl rfl rfl rfl (c_nCou (by rw [i32_to (by omega)]; omega) (by rw [b2, i32_to (by omega), i32_to (by omega)]; omega) ?_)
  refine yp_run 1 (pc' := 6) (lv' := [(0, .ref 0), (1, .int (Int32.ofNat c)), (2, .int 0)]) (st' := [.int 0]) (s' := s) rfl ?_
  refine yp_run 1 (pc' := 52) (lv' := [(0, .ref 0), (1, .int (Int32.ofNat c)), (2, .int 0)]) (st' := []) (s' := s) rfl ?_
  refine yp_run 4 (pc' := 60) (lv' := [(0, .ref 0), (1, .int (Int32.ofNat c)), (2, .int 0)]) (st' := [.int (Int32.ofNat c), .ref 2]) (s' := s) rfl ?_
  have gE : rget s 2 (Int32.ofNat c) = cl c := (rget_i (by show c < 10; omega)).trans (congrFun b3 c)
  refine yp_vi rfl rfl rfl rfl (c_rgetv rfl gE ?_)
  refine yp_ri rfl rfl ?_
  exact kk
theorem c_ofc1 {n D J : Nat} {P : Int32} {cl jc m : Nat → Int32} {c : Nat} (hD : D ≤ 5) (hn : n ≤ 7) (hF : finF s n D J P cl jc m) (hc : c < n) (kk : Φ (some (.int 0)) s) : Yq sd 54 [.ref 0, .int (Int32.ofNat c), .int 1] s Φ := by
  refine Yq.of rfl (Nat.le_of_ble_eq_true rfl) ?_
  obtain ⟨⟨b0, b1, b2, b3, b4, b5, b6, b7, b8, b9, b10, b11, b12, b13, b14, b15, b16, b17, b18, b19, b20, b21, b22⟩, hm, hs, hW⟩ := hF
  obtain ⟨s0, s1, sP, sR, sT, sE, sQ, sN, sW⟩ := hs
  refine yp_run 2 (pc' := 2) (lv' := [(0, .ref 0), (1, .int (Int32.ofNat c)), (2, .int 1)]) (st' := [.int (Int32.ofNat c), .ref 0]) (s' := s) rfl ?_
  refine yp_vi rfl rfl rfl rfl (c_nCou (by rw [i32_to (by omega)]; omega) (by rw [b2, i32_to (by omega), i32_to (by omega)]; omega) ?_)
  refine yp_run 1 (pc' := 6) (lv' := [(0, .ref 0), (1, .int (Int32.ofNat c)), (2, .int 1)]) (st' := [.int 1]) (s' := s) rfl ?_
  refine yp_run 1 (pc' := 64) (lv' := [(0, .ref 0), (1, .int (Int32.ofNat c)), (2, .int 1)]) (st' := []) (s' := s) rfl ?_
  refine yp_run 4 (pc' := 72) (lv' := [(0, .ref 0), (1, .int (Int32.ofNat c)), (2, .int 1)]) (st' := [.int (Int32.ofNat c), .ref 4]) (s' := s) rfl ?_
  have gE : rget s 4 (Int32.ofNat c) = 0 := (rget_i (by show c < 10; omega)).trans (b4 c (by omega))
  refine yp_vi rfl rfl rfl rfl (c_rgetv rfl gE ?_)
  refine yp_ri rfl rfl ?_
  exact kk
theorem c_ofc2 {n D J : Nat} {P : Int32} {cl jc m : Nat → Int32} {c : Nat} (hD : D ≤ 5) (hn : n ≤ 7) (hF : finF s n D J P cl jc m) (hc : c < n) (kk : Φ (some (.int 0)) s) : Yq sd 54 [.ref 0, .int (Int32.ofNat c), .int 2] s Φ := by
  refine Yq.of rfl (Nat.le_of_ble_eq_true rfl) ?_
  obtain ⟨⟨b0, b1, b2, b3, b4, b5, b6, b7, b8, b9, b10, b11, b12, b13, b14, b15, b16, b17, b18, b19, b20, b21, b22⟩, hm, hs, hW⟩ := hF
  obtain ⟨s0, s1, sP, sR, sT, sE, sQ, sN, sW⟩ := hs
  refine yp_run 2 (pc' := 2) (lv' := [(0, .ref 0), (1, .int (Int32.ofNat c)), (2, .int 2)]) (st' := [.int (Int32.ofNat c), .ref 0]) (s' := s) rfl ?_
  refine yp_vi rfl rfl rfl rfl (c_nCou (by rw [i32_to (by omega)]; omega) (by rw [b2, i32_to (by omega), i32_to (by omega)]; omega) ?_)
  refine yp_run 1 (pc' := 6) (lv' := [(0, .ref 0), (1, .int (Int32.ofNat c)), (2, .int 2)]) (st' := [.int 2]) (s' := s) rfl ?_
  refine yp_run 1 (pc' := 76) (lv' := [(0, .ref 0), (1, .int (Int32.ofNat c)), (2, .int 2)]) (st' := []) (s' := s) rfl ?_
  refine yp_run 3 (pc' := 81) (lv' := [(0, .ref 0), (1, .int (Int32.ofNat c)), (2, .int 2)]) (st' := [.int (Int32.ofNat c), .ref 1]) (s' := s) rfl ?_
  refine yp_vi rfl rfl rfl rfl (c_stan (by omega) b6 ?_)
  refine yp_ri rfl rfl ?_
  exact kk
theorem c_ofc3 {n D J : Nat} {P : Int32} {cl jc m : Nat → Int32} {c : Nat} (hD : D ≤ 5) (hn : n ≤ 7) (hF : finF s n D J P cl jc m) (hc : c < n) (kk : Φ (some (.int 1)) s) : Yq sd 54 [.ref 0, .int (Int32.ofNat c), .int 3] s Φ := by
  refine Yq.of rfl (Nat.le_of_ble_eq_true rfl) ?_
  obtain ⟨⟨b0, b1, b2, b3, b4, b5, b6, b7, b8, b9, b10, b11, b12, b13, b14, b15, b16, b17, b18, b19, b20, b21, b22⟩, hm, hs, hW⟩ := hF
  obtain ⟨s0, s1, sP, sR, sT, sE, sQ, sN, sW⟩ := hs
  refine yp_run 2 (pc' := 2) (lv' := [(0, .ref 0), (1, .int (Int32.ofNat c)), (2, .int 3)]) (st' := [.int (Int32.ofNat c), .ref 0]) (s' := s) rfl ?_
  refine yp_vi rfl rfl rfl rfl (c_nCou (by rw [i32_to (by omega)]; omega) (by rw [b2, i32_to (by omega), i32_to (by omega)]; omega) ?_)
  refine yp_run 1 (pc' := 6) (lv' := [(0, .ref 0), (1, .int (Int32.ofNat c)), (2, .int 3)]) (st' := [.int 3]) (s' := s) rfl ?_
  refine yp_run 1 (pc' := 85) (lv' := [(0, .ref 0), (1, .int (Int32.ofNat c)), (2, .int 3)]) (st' := []) (s' := s) rfl ?_
  refine yp_run 4 (pc' := 93) (lv' := [(0, .ref 0), (1, .int (Int32.ofNat c)), (2, .int 3)]) (st' := [.int (Int32.ofNat c), .int (s 15 1)]) (s' := s) rfl ?_
  refine yp_st rfl rfl (c_hold ?_)
  refine yp_if rfl rfl (fun h96 => ?_) (fun h96 => ?_)
  · exact absurd ((all_in (by omega) (by omega)).mpr hc) (by rw [← b11]; exact hd_eqT h96)
  · refine yp_run 2 (pc' := 104) (lv' := [(0, .ref 0), (1, .int (Int32.ofNat c)), (2, .int 3)]) (st' := [.int 1]) (s' := s) rfl ?_
    refine yp_ri rfl rfl ?_
    exact kk
theorem c_ofc4 {n D J : Nat} {P : Int32} {cl jc m : Nat → Int32} {c : Nat} (hD : D ≤ 5) (hn : n ≤ 7) (hF : finF s n D J P cl jc m) (hc : c < n) (kk : Φ (some (.int 1)) s) : Yq sd 54 [.ref 0, .int (Int32.ofNat c), .int 4] s Φ := by
  refine Yq.of rfl (Nat.le_of_ble_eq_true rfl) ?_
  obtain ⟨⟨b0, b1, b2, b3, b4, b5, b6, b7, b8, b9, b10, b11, b12, b13, b14, b15, b16, b17, b18, b19, b20, b21, b22⟩, hm, hs, hW⟩ := hF
  obtain ⟨s0, s1, sP, sR, sT, sE, sQ, sN, sW⟩ := hs
  refine yp_run 2 (pc' := 2) (lv' := [(0, .ref 0), (1, .int (Int32.ofNat c)), (2, .int 4)]) (st' := [.int (Int32.ofNat c), .ref 0]) (s' := s) rfl ?_
  refine yp_vi rfl rfl rfl rfl (c_nCou (by rw [i32_to (by omega)]; omega) (by rw [b2, i32_to (by omega), i32_to (by omega)]; omega) ?_)
  refine yp_run 1 (pc' := 6) (lv' := [(0, .ref 0), (1, .int (Int32.ofNat c)), (2, .int 4)]) (st' := [.int 4]) (s' := s) rfl ?_
  refine yp_run 1 (pc' := 105) (lv' := [(0, .ref 0), (1, .int (Int32.ofNat c)), (2, .int 4)]) (st' := []) (s' := s) rfl ?_
  refine yp_run 4 (pc' := 113) (lv' := [(0, .ref 0), (1, .int (Int32.ofNat c)), (2, .int 4)]) (st' := [.int (Int32.ofNat c), .int (s 15 2)]) (s' := s) rfl ?_
  refine yp_st rfl rfl (c_hold ?_)
  refine yp_if rfl rfl (fun h116 => ?_) (fun h116 => ?_)
  · exact absurd ((all_in (by omega) (by omega)).mpr hc) (by rw [← b12]; exact hd_eqT h116)
  · refine yp_run 2 (pc' := 124) (lv' := [(0, .ref 0), (1, .int (Int32.ofNat c)), (2, .int 4)]) (st' := [.int 1]) (s' := s) rfl ?_
    refine yp_ri rfl rfl ?_
    exact kk
theorem c_ofc5 {n D J : Nat} {P : Int32} {cl jc m : Nat → Int32} {c : Nat} (hD : D ≤ 5) (hn : n ≤ 7) (hF : finF s n D J P cl jc m) (hc : c < n) (kk : Φ (some (.int 0)) s) : Yq sd 54 [.ref 0, .int (Int32.ofNat c), .int 5] s Φ := by
  refine Yq.of rfl (Nat.le_of_ble_eq_true rfl) ?_
  obtain ⟨⟨b0, b1, b2, b3, b4, b5, b6, b7, b8, b9, b10, b11, b12, b13, b14, b15, b16, b17, b18, b19, b20, b21, b22⟩, hm, hs, hW⟩ := hF
  obtain ⟨s0, s1, sP, sR, sT, sE, sQ, sN, sW⟩ := hs
  refine yp_run 2 (pc' := 2) (lv' := [(0, .ref 0), (1, .int (Int32.ofNat c)), (2, .int 5)]) (st' := [.int (Int32.ofNat c), .ref 0]) (s' := s) rfl ?_
  refine yp_vi rfl rfl rfl rfl (c_nCou (by rw [i32_to (by omega)]; omega) (by rw [b2, i32_to (by omega), i32_to (by omega)]; omega) ?_)
  refine yp_run 1 (pc' := 6) (lv' := [(0, .ref 0), (1, .int (Int32.ofNat c)), (2, .int 5)]) (st' := [.int 5]) (s' := s) rfl ?_
  refine yp_run 1 (pc' := 125) (lv' := [(0, .ref 0), (1, .int (Int32.ofNat c)), (2, .int 5)]) (st' := []) (s' := s) rfl ?_
  refine yp_run 4 (pc' := 133) (lv' := [(0, .ref 0), (1, .int (Int32.ofNat c)), (2, .int 5)]) (st' := [.int (Int32.ofNat c), .ref 16]) (s' := s) rfl ?_
  have gE : rget s 16 (Int32.ofNat c) = 0 := (rget_i (by show c < 10; omega)).trans (b16 c (by omega))
  refine yp_vi rfl rfl rfl rfl (c_rgetv rfl gE ?_)
  refine yp_ri rfl rfl ?_
  exact kk
theorem c_ofc6 {n D J : Nat} {P : Int32} {cl jc m : Nat → Int32} {c : Nat} (hD : D ≤ 5) (hn : n ≤ 7) (hF : finF s n D J P cl jc m) (hc : c < n) (kk : Φ (some (.int 0)) s) : Yq sd 54 [.ref 0, .int (Int32.ofNat c), .int 6] s Φ := by
  refine Yq.of rfl (Nat.le_of_ble_eq_true rfl) ?_
  obtain ⟨⟨b0, b1, b2, b3, b4, b5, b6, b7, b8, b9, b10, b11, b12, b13, b14, b15, b16, b17, b18, b19, b20, b21, b22⟩, hm, hs, hW⟩ := hF
  obtain ⟨s0, s1, sP, sR, sT, sE, sQ, sN, sW⟩ := hs
  refine yp_run 2 (pc' := 2) (lv' := [(0, .ref 0), (1, .int (Int32.ofNat c)), (2, .int 6)]) (st' := [.int (Int32.ofNat c), .ref 0]) (s' := s) rfl ?_
  refine yp_vi rfl rfl rfl rfl (c_nCou (by rw [i32_to (by omega)]; omega) (by rw [b2, i32_to (by omega), i32_to (by omega)]; omega) ?_)
  refine yp_run 1 (pc' := 6) (lv' := [(0, .ref 0), (1, .int (Int32.ofNat c)), (2, .int 6)]) (st' := [.int 6]) (s' := s) rfl ?_
  refine yp_run 1 (pc' := 137) (lv' := [(0, .ref 0), (1, .int (Int32.ofNat c)), (2, .int 6)]) (st' := []) (s' := s) rfl ?_
  refine yp_run 3 (pc' := 142) (lv' := [(0, .ref 0), (1, .int (Int32.ofNat c)), (2, .int 6)]) (st' := [.int (Int32.ofNat c), .ref 18]) (s' := s) rfl ?_
  refine yp_vi rfl rfl rfl rfl (c_crO b18 ?_)
  refine yp_ri rfl rfl ?_
  exact kk
theorem c_ofc7 {n D J : Nat} {P : Int32} {cl jc m : Nat → Int32} {c : Nat} (hD : D ≤ 5) (hn : n ≤ 7) (hF : finF s n D J P cl jc m) (hc : c < n) (kk : Φ (some (.int (-1))) s) : Yq sd 54 [.ref 0, .int (Int32.ofNat c), .int 7] s Φ := by
  refine Yq.of rfl (Nat.le_of_ble_eq_true rfl) ?_
  obtain ⟨⟨b0, b1, b2, b3, b4, b5, b6, b7, b8, b9, b10, b11, b12, b13, b14, b15, b16, b17, b18, b19, b20, b21, b22⟩, hm, hs, hW⟩ := hF
  obtain ⟨s0, s1, sP, sR, sT, sE, sQ, sN, sW⟩ := hs
  refine yp_run 2 (pc' := 2) (lv' := [(0, .ref 0), (1, .int (Int32.ofNat c)), (2, .int 7)]) (st' := [.int (Int32.ofNat c), .ref 0]) (s' := s) rfl ?_
  refine yp_vi rfl rfl rfl rfl (c_nCou (by rw [i32_to (by omega)]; omega) (by rw [b2, i32_to (by omega), i32_to (by omega)]; omega) ?_)
  refine yp_run 1 (pc' := 6) (lv' := [(0, .ref 0), (1, .int (Int32.ofNat c)), (2, .int 7)]) (st' := [.int 7]) (s' := s) rfl ?_
  refine yp_run 1 (pc' := 146) (lv' := [(0, .ref 0), (1, .int (Int32.ofNat c)), (2, .int 7)]) (st' := []) (s' := s) rfl ?_
  refine yp_run 4 (pc' := 154) (lv' := [(0, .ref 0), (1, .int (Int32.ofNat c)), (2, .int 7)]) (st' := [.int (Int32.ofNat c), .ref 21]) (s' := s) rfl ?_
  have gE : rget s 21 (Int32.ofNat c) = (-1) := (rget_i (by show c < 10; omega)).trans (b19 c (by omega))
  refine yp_vi rfl rfl rfl rfl (c_rgetv rfl gE ?_)
  refine yp_ri rfl rfl ?_
  exact kk
theorem c_ofCo {n D J : Nat} {P : Int32} {cl jc m : Nat → Int32} {c w : Nat} (hw : w < 8) (hD : D ≤ 5) (hn : n ≤ 7) (hF : finF s n D J P cl jc m) (hc : c < n) (kk : Φ (some (.int (ocV cl c w))) s) : Yq sd 54 [.ref 0, .int (Int32.ofNat c), .int (Int32.ofNat w)] s Φ := by
  rcases (show w = 0 ∨ w = 1 ∨ w = 2 ∨ w = 3 ∨ w = 4 ∨ w = 5 ∨ w = 6 ∨ w = 7 by omega) with rfl | rfl | rfl | rfl | rfl | rfl | rfl | rfl
  · exact c_ofc0 hD hn hF hc kk
  · exact c_ofc1 hD hn hF hc kk
  · exact c_ofc2 hD hn hF hc kk
  · exact c_ofc3 hD hn hF hc kk
  · exact c_ofc4 hD hn hF hc kk
  · exact c_ofc5 hD hn hF hc kk
  · exact c_ofc6 hD hn hF hc kk
  · exact c_ofc7 hD hn hF hc kk
theorem c_meet {n D J : Nat} {P : Int32} {cl jc m : Nat → Int32} {c : Nat} (hD : D ≤ 5) (hn : n ≤ 7) (hF : finF s n D J P cl jc m) (hc : c < n) (kk : Φ (some (.int 0)) s) : Yq sd 59 [.ref 0, .int (Int32.ofNat c), .int 0] s Φ := by
  refine Yq.of rfl (Nat.le_of_ble_eq_true rfl) ?_
  obtain ⟨⟨b0, b1, b2, b3, b4, b5, b6, b7, b8, b9, b10, b11, b12, b13, b14, b15, b16, b17, b18, b19, b20, b21, b22⟩, hm, hs, hW⟩ := hF
  obtain ⟨s0, s1, sP, sR, sT, sE, sQ, sN, sW⟩ := hs
  refine yp_run 2 (pc' := 2) (lv' := [(0, .ref 0), (1, .int (Int32.ofNat c)), (2, .int 0)]) (st' := [.int (Int32.ofNat c), .ref 0]) (s' := s) rfl ?_
  refine yp_vi rfl rfl rfl rfl (c_nCou (by rw [i32_to (by omega)]; omega) (by rw [b2, i32_to (by omega), i32_to (by omega)]; omega) ?_)
  refine yp_run 2 (pc' := 7) (lv' := [(0, .ref 0), (1, .int (Int32.ofNat c)), (2, .int 0)]) (st' := [.int 0, .ref 0]) (s' := s) rfl ?_
  refine yp_vi rfl rfl rfl rfl (c_nCou (by decide) (by rw [b2, i32_to (by omega), show (0 : Int32).toInt = 0 from rfl]; omega) ?_)
  refine yp_run 5 (pc' := 19) (lv' := [(0, .ref 0), (1, .int (Int32.ofNat c)), (2, .int 0)]) (st' := [.int 0, .int (Int32.ofNat c), .ref 6]) (s' := s) rfl ?_
  have g0 : gget s 6 (Int32.ofNat c) 0 = 0 := (gget_i (k := 6) (b := 0) (by decide) (by decide) (by show c * 10 + 0 < 100; omega)).trans (b5 _ (by show c * 10 + 0 < 100; omega))
  refine yp_vi rfl rfl rfl rfl (c_ggetv rfl g0 ?_)
  refine yp_ri rfl rfl ?_
  exact kk
def ojV (D : Nat) (P : Int32) (jc m : Nat → Int32) (j : Nat) : Nat → Int32
  | 0 => (jc j)
  | 1 => (hd P (Int32.ofNat j))
  | 2 => 0
  | _ => (shj (hdn m j) D)
theorem c_ofj0 {n D J : Nat} {P : Int32} {cl jc m : Nat → Int32} {j : Nat} (hD : D ≤ 5) (hn : n ≤ 7) (hF : finF s n D J P cl jc m) (hJ : J ≤ 7) (hj : j < J) (kk : Φ (some (.int (jc j))) s) : Yq sd 65 [.ref 0, .int (Int32.ofNat j), .int 0] s Φ := by
  refine Yq.of rfl (Nat.le_of_ble_eq_true rfl) ?_
  obtain ⟨⟨b0, b1, b2, b3, b4, b5, b6, b7, b8, b9, b10, b11, b12, b13, b14, b15, b16, b17, b18, b19, b20, b21, b22⟩, hm, hs, hW⟩ := hF
  obtain ⟨s0, s1, sP, sR, sT, sE, sQ, sN, sW⟩ := hs
  refine yp_run 1 (pc' := 1) (lv' := [(0, .ref 0), (1, .int (Int32.ofNat j)), (2, .int 0)]) (st' := [.int (Int32.ofNat j)]) (s' := s) rfl ?_
  refine yp_if rfl rfl (fun h1 => ?_) (fun h1 => ?_)
  · have h1 := xT (xc_lt _ _) h1; rw [i32_to (by omega), Int32.toInt_zero] at h1; omega
  · refine yp_run 4 (pc' := 12) (lv' := [(0, .ref 0), (1, .int (Int32.ofNat j)), (2, .int 0)]) (st' := [.int (s 10 0), .int (Int32.ofNat j)]) (s' := s) rfl ?_
    refine yp_icmp rfl rfl (fun h12 => ?_) (fun h12 => ?_)
    · refine yp_run 1 (pc' := 27) (lv' := [(0, .ref 0), (1, .int (Int32.ofNat j)), (2, .int 0)]) (st' := [.int 0]) (s' := s) rfl ?_
      refine yp_run 1 (pc' := 56) (lv' := [(0, .ref 0), (1, .int (Int32.ofNat j)), (2, .int 0)]) (st' := []) (s' := s) rfl ?_
      refine yp_run 4 (pc' := 64) (lv' := [(0, .ref 0), (1, .int (Int32.ofNat j)), (2, .int 0)]) (st' := [.int (Int32.ofNat j), .ref 11]) (s' := s) rfl ?_
      have gE : rget s 11 (Int32.ofNat j) = jc j := (rget_i (by show j < 7; omega)).trans (congrFun b8 j)
      refine yp_vi rfl rfl rfl rfl (c_rgetv rfl gE ?_)
      refine yp_ri rfl rfl ?_
      exact kk
    · have h12 := xN (xc_lt _ _) h12; rw [b7, i32_to (by omega), i32_to (by omega)] at h12; omega
theorem c_ofj1 {n D J : Nat} {P : Int32} {cl jc m : Nat → Int32} {j : Nat} (hD : D ≤ 5) (hn : n ≤ 7) (hF : finF s n D J P cl jc m) (hJ : J ≤ 7) (hj : j < J) (kk : Φ (some (.int (hd P (Int32.ofNat j)))) s) : Yq sd 65 [.ref 0, .int (Int32.ofNat j), .int 1] s Φ := by
  refine Yq.of rfl (Nat.le_of_ble_eq_true rfl) ?_
  obtain ⟨⟨b0, b1, b2, b3, b4, b5, b6, b7, b8, b9, b10, b11, b12, b13, b14, b15, b16, b17, b18, b19, b20, b21, b22⟩, hm, hs, hW⟩ := hF
  obtain ⟨s0, s1, sP, sR, sT, sE, sQ, sN, sW⟩ := hs
  refine yp_run 1 (pc' := 1) (lv' := [(0, .ref 0), (1, .int (Int32.ofNat j)), (2, .int 1)]) (st' := [.int (Int32.ofNat j)]) (s' := s) rfl ?_
  refine yp_if rfl rfl (fun h1 => ?_) (fun h1 => ?_)
  · have h1 := xT (xc_lt _ _) h1; rw [i32_to (by omega), Int32.toInt_zero] at h1; omega
  · refine yp_run 4 (pc' := 12) (lv' := [(0, .ref 0), (1, .int (Int32.ofNat j)), (2, .int 1)]) (st' := [.int (s 10 0), .int (Int32.ofNat j)]) (s' := s) rfl ?_
    refine yp_icmp rfl rfl (fun h12 => ?_) (fun h12 => ?_)
    · refine yp_run 1 (pc' := 27) (lv' := [(0, .ref 0), (1, .int (Int32.ofNat j)), (2, .int 1)]) (st' := [.int 1]) (s' := s) rfl ?_
      refine yp_run 1 (pc' := 68) (lv' := [(0, .ref 0), (1, .int (Int32.ofNat j)), (2, .int 1)]) (st' := []) (s' := s) rfl ?_
      refine yp_run 4 (pc' := 76) (lv' := [(0, .ref 0), (1, .int (Int32.ofNat j)), (2, .int 1)]) (st' := [.int (Int32.ofNat j), .int (s 15 3)]) (s' := s) rfl ?_
      refine yp_st rfl rfl (c_hold ?_)
      refine yp_if rfl rfl (fun h79 => ?_) (fun h79 => ?_)
      · refine yp_run 1 (pc' := 87) (lv' := [(0, .ref 0), (1, .int (Int32.ofNat j)), (2, .int 1)]) (st' := [.int 0]) (s' := s) rfl ?_
        refine yp_ri rfl rfl ?_
        have h9 := h79
        rw [b13] at h9
        rw [hd_f (hd_eqT h9)] at kk
        exact kk
      · refine yp_run 2 (pc' := 87) (lv' := [(0, .ref 0), (1, .int (Int32.ofNat j)), (2, .int 1)]) (st' := [.int 1]) (s' := s) rfl ?_
        refine yp_ri rfl rfl ?_
        have h9 := h79
        rw [b13] at h9
        rw [hd_t (hd_eqF h9)] at kk
        exact kk
    · have h12 := xN (xc_lt _ _) h12; rw [b7, i32_to (by omega), i32_to (by omega)] at h12; omega
theorem c_ofj2 {n D J : Nat} {P : Int32} {cl jc m : Nat → Int32} {j : Nat} (hD : D ≤ 5) (hn : n ≤ 7) (hF : finF s n D J P cl jc m) (hJ : J ≤ 7) (hj : j < J) (kk : Φ (some (.int 0)) s) : Yq sd 65 [.ref 0, .int (Int32.ofNat j), .int 2] s Φ := by
  refine Yq.of rfl (Nat.le_of_ble_eq_true rfl) ?_
  obtain ⟨⟨b0, b1, b2, b3, b4, b5, b6, b7, b8, b9, b10, b11, b12, b13, b14, b15, b16, b17, b18, b19, b20, b21, b22⟩, hm, hs, hW⟩ := hF
  obtain ⟨s0, s1, sP, sR, sT, sE, sQ, sN, sW⟩ := hs
  refine yp_run 1 (pc' := 1) (lv' := [(0, .ref 0), (1, .int (Int32.ofNat j)), (2, .int 2)]) (st' := [.int (Int32.ofNat j)]) (s' := s) rfl ?_
  refine yp_if rfl rfl (fun h1 => ?_) (fun h1 => ?_)
  · have h1 := xT (xc_lt _ _) h1; rw [i32_to (by omega), Int32.toInt_zero] at h1; omega
  · refine yp_run 4 (pc' := 12) (lv' := [(0, .ref 0), (1, .int (Int32.ofNat j)), (2, .int 2)]) (st' := [.int (s 10 0), .int (Int32.ofNat j)]) (s' := s) rfl ?_
    refine yp_icmp rfl rfl (fun h12 => ?_) (fun h12 => ?_)
    · refine yp_run 1 (pc' := 27) (lv' := [(0, .ref 0), (1, .int (Int32.ofNat j)), (2, .int 2)]) (st' := [.int 2]) (s' := s) rfl ?_
      refine yp_run 1 (pc' := 88) (lv' := [(0, .ref 0), (1, .int (Int32.ofNat j)), (2, .int 2)]) (st' := []) (s' := s) rfl ?_
      refine yp_run 4 (pc' := 96) (lv' := [(0, .ref 0), (1, .int (Int32.ofNat j)), (2, .int 2)]) (st' := [.int (Int32.ofNat j), .ref 13]) (s' := s) rfl ?_
      have gE : rget s 13 (Int32.ofNat j) = 0 := (rget_i (by show j < 7; omega)).trans (b9 j (by omega))
      refine yp_vi rfl rfl rfl rfl (c_rgetv rfl gE ?_)
      refine yp_ri rfl rfl ?_
      exact kk
    · have h12 := xN (xc_lt _ _) h12; rw [b7, i32_to (by omega), i32_to (by omega)] at h12; omega
theorem c_ofj3 {n D J : Nat} {P : Int32} {cl jc m : Nat → Int32} {j : Nat} (hD : D ≤ 5) (hn : n ≤ 7) (hF : finF s n D J P cl jc m) (hJ : J ≤ 7) (hj : j < J) (kk : Φ (some (.int (shj (hdn m j) D))) s) : Yq sd 65 [.ref 0, .int (Int32.ofNat j), .int 3] s Φ := by
  refine Yq.of rfl (Nat.le_of_ble_eq_true rfl) ?_
  obtain ⟨⟨b0, b1, b2, b3, b4, b5, b6, b7, b8, b9, b10, b11, b12, b13, b14, b15, b16, b17, b18, b19, b20, b21, b22⟩, hm, hs, hW⟩ := hF
  obtain ⟨s0, s1, sP, sR, sT, sE, sQ, sN, sW⟩ := hs
  refine yp_run 1 (pc' := 1) (lv' := [(0, .ref 0), (1, .int (Int32.ofNat j)), (2, .int 3)]) (st' := [.int (Int32.ofNat j)]) (s' := s) rfl ?_
  refine yp_if rfl rfl (fun h1 => ?_) (fun h1 => ?_)
  · have h1 := xT (xc_lt _ _) h1; rw [i32_to (by omega), Int32.toInt_zero] at h1; omega
  · refine yp_run 4 (pc' := 12) (lv' := [(0, .ref 0), (1, .int (Int32.ofNat j)), (2, .int 3)]) (st' := [.int (s 10 0), .int (Int32.ofNat j)]) (s' := s) rfl ?_
    refine yp_icmp rfl rfl (fun h12 => ?_) (fun h12 => ?_)
    · refine yp_run 1 (pc' := 27) (lv' := [(0, .ref 0), (1, .int (Int32.ofNat j)), (2, .int 3)]) (st' := [.int 3]) (s' := s) rfl ?_
      refine yp_run 1 (pc' := 100) (lv' := [(0, .ref 0), (1, .int (Int32.ofNat j)), (2, .int 3)]) (st' := []) (s' := s) rfl ?_
      refine yp_run 3 (pc' := 105) (lv' := [(0, .ref 0), (1, .int (Int32.ofNat j)), (2, .int 3)]) (st' := [.int (Int32.ofNat j), .ref 25]) (s' := s) rfl ?_
      refine yp_vi rfl rfl rfl rfl (c_ofJ (H := hdn m j) hD b21 (fun d h1 => by rw [has_i (by omega) (by omega), hm]; rfl) ?_)
      refine yp_ri rfl rfl ?_
      exact kk
    · have h12 := xN (xc_lt _ _) h12; rw [b7, i32_to (by omega), i32_to (by omega)] at h12; omega
theorem c_ofJu {n D J : Nat} {P : Int32} {cl jc m : Nat → Int32} {j w : Nat} (hw : w < 4) (hD : D ≤ 5) (hn : n ≤ 7) (hF : finF s n D J P cl jc m) (hJ : J ≤ 7) (hj : j < J) (kk : Φ (some (.int (ojV D P jc m j w))) s) : Yq sd 65 [.ref 0, .int (Int32.ofNat j), .int (Int32.ofNat w)] s Φ := by
  rcases (show w = 0 ∨ w = 1 ∨ w = 2 ∨ w = 3 by omega) with rfl | rfl | rfl | rfl
  · exact c_ofj0 hD hn hF hJ hj kk
  · exact c_ofj1 hD hn hF hJ hj kk
  · exact c_ofj2 hD hn hF hJ hj kk
  · exact c_ofj3 hD hn hF hJ hj kk
theorem c_pla0 {n D J : Nat} {P : Int32} {cl jc m : Nat → Int32} {c d : Nat} (hD : D ≤ 5) (hn : n ≤ 7) (hF : finF s n D J P cl jc m) (hc : c < n) (hd : d < D) (kk : Φ (some (.int (PLf n (ef 0 m) d c))) s) : Yq sd 61 [.ref 0, .int (Int32.ofNat c), .int (Int32.ofNat d), .int 0] s Φ := by
  refine Yq.of rfl (Nat.le_of_ble_eq_true rfl) ?_
  obtain ⟨⟨b0, b1, b2, b3, b4, b5, b6, b7, b8, b9, b10, b11, b12, b13, b14, b15, b16, b17, b18, b19, b20, b21, b22⟩, hm, hs, hW⟩ := hF
  obtain ⟨s0, s1, sP, sR, sT, sE, sQ, sN, sW⟩ := hs
  refine yp_run 2 (pc' := 2) (lv' := [(0, .ref 0), (1, .int (Int32.ofNat c)), (2, .int (Int32.ofNat d)), (3, .int 0)]) (st' := [.int (Int32.ofNat c), .ref 0]) (s' := s) rfl ?_
  refine yp_vi rfl rfl rfl rfl (c_nFinv (by omega) hc b0 b12 ?_)
  refine yp_run 2 (pc' := 7) (lv' := [(0, .ref 0), (1, .int (Int32.ofNat c)), (2, .int (Int32.ofNat d)), (3, .int 0)]) (st' := [.int (Int32.ofNat d), .ref 0]) (s' := s) rfl ?_
  refine yp_vi rfl rfl rfl rfl (c_nDan (by rw [i32_to (by omega)]; omega) (by rw [b14, i32_to (by omega), i32_to (by omega)]; omega) ?_)
  refine yp_run 3 (pc' := 15) (lv' := [(0, .ref 0), (1, .int (Int32.ofNat c)), (2, .int (Int32.ofNat d)), (3, .int 0)]) (st' := [.int (Int32.ofNat c), .ref 15]) (s' := s) rfl ?_
  refine yp_vi rfl rfl rfl rfl (c_posv (by omega) hc b12 ?_)
  refine yp_run 2 (pc' := 21) (lv' := [(0, .ref 0), (1, .int (Int32.ofNat c)), (2, .int (Int32.ofNat d)), (3, .int 0), (4, .int (Int32.ofNat c))]) (st' := [.int 0]) (s' := s) rfl ?_
  refine yp_run 1 (pc' := 48) (lv' := [(0, .ref 0), (1, .int (Int32.ofNat c)), (2, .int (Int32.ofNat d)), (3, .int 0), (4, .int (Int32.ofNat c))]) (st' := []) (s' := s) rfl ?_
  refine yp_run 5 (pc' := 58) (lv' := [(0, .ref 0), (1, .int (Int32.ofNat c)), (2, .int (Int32.ofNat d)), (3, .int 0), (4, .int (Int32.ofNat c))]) (st' := [.int (Int32.ofNat c), .int (Int32.ofNat d), .ref 31]) (s' := s) rfl ?_
  have gE : gget s 31 (Int32.ofNat d) (Int32.ofNat c) = PLf n (ef 0 m) d c := (gget_i (k := 31) (by show c < 8; omega) (by decide) (by show d * 8 + c < 40; omega)).trans (sP d c hd hc)
  refine yp_vi rfl rfl rfl rfl (c_ggetv rfl gE ?_)
  refine yp_ri rfl rfl ?_
  exact kk
theorem c_pla1 {n D J : Nat} {P : Int32} {cl jc m : Nat → Int32} {c d : Nat} (hD : D ≤ 5) (hn : n ≤ 7) (hF : finF s n D J P cl jc m) (hc : c < n) (hd : d < D) (kk : Φ (some (.int (RSf n (ef 0 m) d c))) s) : Yq sd 61 [.ref 0, .int (Int32.ofNat c), .int (Int32.ofNat d), .int 1] s Φ := by
  refine Yq.of rfl (Nat.le_of_ble_eq_true rfl) ?_
  obtain ⟨⟨b0, b1, b2, b3, b4, b5, b6, b7, b8, b9, b10, b11, b12, b13, b14, b15, b16, b17, b18, b19, b20, b21, b22⟩, hm, hs, hW⟩ := hF
  obtain ⟨s0, s1, sP, sR, sT, sE, sQ, sN, sW⟩ := hs
  refine yp_run 2 (pc' := 2) (lv' := [(0, .ref 0), (1, .int (Int32.ofNat c)), (2, .int (Int32.ofNat d)), (3, .int 1)]) (st' := [.int (Int32.ofNat c), .ref 0]) (s' := s) rfl ?_
  refine yp_vi rfl rfl rfl rfl (c_nFinv (by omega) hc b0 b12 ?_)
  refine yp_run 2 (pc' := 7) (lv' := [(0, .ref 0), (1, .int (Int32.ofNat c)), (2, .int (Int32.ofNat d)), (3, .int 1)]) (st' := [.int (Int32.ofNat d), .ref 0]) (s' := s) rfl ?_
  refine yp_vi rfl rfl rfl rfl (c_nDan (by rw [i32_to (by omega)]; omega) (by rw [b14, i32_to (by omega), i32_to (by omega)]; omega) ?_)
  refine yp_run 3 (pc' := 15) (lv' := [(0, .ref 0), (1, .int (Int32.ofNat c)), (2, .int (Int32.ofNat d)), (3, .int 1)]) (st' := [.int (Int32.ofNat c), .ref 15]) (s' := s) rfl ?_
  refine yp_vi rfl rfl rfl rfl (c_posv (by omega) hc b12 ?_)
  refine yp_run 2 (pc' := 21) (lv' := [(0, .ref 0), (1, .int (Int32.ofNat c)), (2, .int (Int32.ofNat d)), (3, .int 1), (4, .int (Int32.ofNat c))]) (st' := [.int 1]) (s' := s) rfl ?_
  refine yp_run 1 (pc' := 62) (lv' := [(0, .ref 0), (1, .int (Int32.ofNat c)), (2, .int (Int32.ofNat d)), (3, .int 1), (4, .int (Int32.ofNat c))]) (st' := []) (s' := s) rfl ?_
  refine yp_run 5 (pc' := 72) (lv' := [(0, .ref 0), (1, .int (Int32.ofNat c)), (2, .int (Int32.ofNat d)), (3, .int 1), (4, .int (Int32.ofNat c))]) (st' := [.int (Int32.ofNat c), .int (Int32.ofNat d), .ref 33]) (s' := s) rfl ?_
  have gE : gget s 33 (Int32.ofNat d) (Int32.ofNat c) = RSf n (ef 0 m) d c := (gget_i (k := 33) (by show c < 8; omega) (by decide) (by show d * 8 + c < 40; omega)).trans (sR d c hd hc)
  refine yp_vi rfl rfl rfl rfl (c_ggetv rfl gE ?_)
  refine yp_ri rfl rfl ?_
  exact kk
theorem c_mOB {n D J : Nat} {P : Int32} {cl jc m : Nat → Int32} {c d : Nat} (hD : D ≤ 5) (hn : n ≤ 7) (hF : finF s n D J P cl jc m) (hc : c < n) (hd : d < D) (kk : Φ (some (.int (pre (Cf (ef 0 m) d c) 1))) s) : Yq sd 64 [.ref 30, .int (Int32.ofNat d), .int (Int32.ofNat c), .int 1] s Φ := by
  refine Yq.of rfl (Nat.le_of_ble_eq_true rfl) ?_
  obtain ⟨⟨b0, b1, b2, b3, b4, b5, b6, b7, b8, b9, b10, b11, b12, b13, b14, b15, b16, b17, b18, b19, b20, b21, b22⟩, hm, hs, hW⟩ := hF
  obtain ⟨s0, s1, sP, sR, sT, sE, sQ, sN, sW⟩ := hs
  refine yp_run 4 (pc' := 6) (lv' := [(0, .ref 30), (1, .int (Int32.ofNat d)), (2, .int (Int32.ofNat c)), (3, .int 1)]) (st' := [.int (Int32.ofNat c), .int (Int32.ofNat d), .ref 41]) (s' := s) rfl ?_
  refine yp_st rfl rfl (c_rowOf ?_)
  refine yp_run 1 (pc' := 10) (lv' := [(0, .ref 30), (1, .int (Int32.ofNat d)), (2, .int (Int32.ofNat c)), (3, .int 1)]) (st' := [.int 1, .int (Int32.ofNat d * 8 + Int32.ofNat c), .ref 41]) (s' := s) rfl ?_
  have gN : gget s 42 (Int32.ofNat d * 8 + Int32.ofNat c) 1 = pre (Cf (ef 0 m) d c) 1 := by
    rw [row_i]
    exact (gget_i (k := 42) (b := 1) (by decide) (by decide) (by show (d * 8 + c) * 9 + 1 < 360; omega)).trans (sN d c 1 hd hc (Nat.le_refl _) (by omega))
  refine yp_vi rfl rfl rfl rfl (c_numv (by decide) gN ?_)
  refine yp_ri rfl rfl ?_
  exact kk
theorem c_vote {n D J : Nat} {P : Int32} {cl jc m : Nat → Int32} {c d : Nat} (hD : D ≤ 5) (hn : n ≤ 7) (hF : finF s n D J P cl jc m) (hc : c < n) (hd : d < D) (kk : Φ (some (.int (pre (Cf (ef 0 m) d c) 1))) s) : Yq sd 63 [.ref 0, .int (Int32.ofNat c), .int (Int32.ofNat d), .int 1] s Φ := by
  refine Yq.of rfl (Nat.le_of_ble_eq_true rfl) ?_
  have hF9 := hF
  obtain ⟨⟨b0, b1, b2, b3, b4, b5, b6, b7, b8, b9, b10, b11, b12, b13, b14, b15, b16, b17, b18, b19, b20, b21, b22⟩, hm, hs, hW⟩ := hF
  obtain ⟨s0, s1, sP, sR, sT, sE, sQ, sN, sW⟩ := hs
  refine yp_run 2 (pc' := 2) (lv' := [(0, .ref 0), (1, .int (Int32.ofNat c)), (2, .int (Int32.ofNat d)), (3, .int 1)]) (st' := [.int (Int32.ofNat c), .ref 0]) (s' := s) rfl ?_
  refine yp_vi rfl rfl rfl rfl (c_nFinv (by omega) hc b0 b12 ?_)
  refine yp_run 2 (pc' := 7) (lv' := [(0, .ref 0), (1, .int (Int32.ofNat c)), (2, .int (Int32.ofNat d)), (3, .int 1)]) (st' := [.int (Int32.ofNat d), .ref 0]) (s' := s) rfl ?_
  refine yp_vi rfl rfl rfl rfl (c_nDan (by rw [i32_to (by omega)]; omega) (by rw [b14, i32_to (by omega), i32_to (by omega)]; omega) ?_)
  refine yp_run 2 (pc' := 12) (lv' := [(0, .ref 0), (1, .int (Int32.ofNat c)), (2, .int (Int32.ofNat d)), (3, .int 1)]) (st' := [.int 1, .int 1]) (s' := s) rfl ?_
  refine yp_icmp rfl rfl (fun h12 => ?_) (fun h12 => ?_)
  · cases h12
  · refine yp_run 4 (pc' := 23) (lv' := [(0, .ref 0), (1, .int (Int32.ofNat c)), (2, .int (Int32.ofNat d)), (3, .int 1)]) (st' := [.int (s 25 0), .int 1]) (s' := s) rfl ?_
    refine yp_icmp rfl rfl (fun h23 => ?_) (fun h23 => ?_)
    · refine yp_run 6 (pc' := 47) (lv' := [(0, .ref 0), (1, .int (Int32.ofNat c)), (2, .int (Int32.ofNat d)), (3, .int 1)]) (st' := [.int (Int32.ofNat c), .ref 15, .int (Int32.ofNat d), .ref 30]) (s' := s) rfl ?_
      refine yp_vi rfl rfl rfl rfl (c_posv (by omega) hc b12 ?_)
      refine yp_run 1 (pc' := 51) (lv' := [(0, .ref 0), (1, .int (Int32.ofNat c)), (2, .int (Int32.ofNat d)), (3, .int 1)]) (st' := [.int 1, .int (Int32.ofNat c), .int (Int32.ofNat d), .ref 30]) (s' := s) rfl ?_
      refine yp_vi rfl rfl rfl rfl (c_mOB hD hn hF9 hc hd ?_)
      refine yp_ri rfl rfl ?_
      exact kk
    · have h23 := xN (xc_le _ _) h23; rw [b20, i32_to (by omega), show (1 : Int32).toInt = 1 from rfl] at h23; omega
end YAD
