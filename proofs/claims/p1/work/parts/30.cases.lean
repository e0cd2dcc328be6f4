/-! p1: cases -/
section XP3
set_option maxRecDepth 100000 in
set_option maxHeartbeats 4000000 in
theorem p1_c0 {x0 x1 x2 x3 x4 x5 : Int32} (hx : x0 &&& 31 = 0) : Px none (some [x0, x1, x2, x3, x4, x5]) xlaw 23 [(4, .int 0), (3, .ref 158), (2, .ref 78), (1, .ref 4), (0, .ref 0)] [] xf3 (xf2k + 1) xfin := by
  refine p1_head (pc := 156) hx rfl ?_
  repeat' first
    | refine px_step rfl rfl rfl ?_
    | (refine px_ret rfl rfl rfl ?_; try dsimp only [xbk, xbc, xbn])
    | (refine px_thr rfl rfl rfl ?_; try dsimp only [xbk, xbc, xbn])
    | (refine px_if rfl rfl ?_ ?_ <;> intro hb <;> (try simp [xcmp, Int32.lt_iff_toInt_lt, Int32.le_iff_toInt_le] at hb) <;> first | (exfalso; omega) | skip)
    | (refine px_icmp rfl rfl ?_ ?_ <;> intro hb <;> (try simp [xcmp, Int32.lt_iff_toInt_lt, Int32.le_iff_toInt_le] at hb) <;> first | (exfalso; omega) | skip)
    | (refine px_vi rfl rfl rfl rfl rfl ?_; refine Qx.of (Or.inl rfl) (Nat.le_of_ble_eq_true rfl) ?_)
    | (refine px_vc rfl rfl rfl rfl (by decide) ?_; refine Qx.of (Or.inl rfl) (Nat.le_of_ble_eq_true rfl) ?_)
    | (refine px_st rfl rfl rfl rfl rfl ?_; refine Qx.of (Or.inl rfl) (Nat.le_of_ble_eq_true rfl) ?_)
    | (refine px_sw rfl rfl rfl ?_; refine Qx.of (Or.inr rfl) (Nat.le_of_ble_eq_true rfl) ?_)
    | (refine px_sn rfl rfl rfl rfl ?_; refine Qx.of (Or.inl rfl) (Nat.le_of_ble_eq_true rfl) ?_)
    | (refine ⟨_, _, _, rfl, Nat.le_of_ble_eq_true rfl, ?_⟩)
    | exact ⟨_, _, rfl, by simp only [xset, List.length_set, List.length_append, xf3, xf_len.2]; decide, Nat.le_of_ble_eq_true rfl⟩
set_option maxRecDepth 100000 in
set_option maxHeartbeats 4000000 in
theorem p1_c1 {x0 x1 x2 x3 x4 x5 : Int32} (hx : x0 &&& 31 = 1) : Px none (some [x0, x1, x2, x3, x4, x5]) xlaw 23 [(4, .int 0), (3, .ref 158), (2, .ref 78), (1, .ref 4), (0, .ref 0)] [] xf3 (xf2k + 1) xfin := by
  refine p1_head (pc := 212) hx rfl ?_
  repeat' first
    | refine px_step rfl rfl rfl ?_
    | (refine px_ret rfl rfl rfl ?_; try dsimp only [xbk, xbc, xbn])
    | (refine px_thr rfl rfl rfl ?_; try dsimp only [xbk, xbc, xbn])
    | (refine px_if rfl rfl ?_ ?_ <;> intro hb <;> (try simp [xcmp, Int32.lt_iff_toInt_lt, Int32.le_iff_toInt_le] at hb) <;> first | (exfalso; omega) | skip)
    | (refine px_icmp rfl rfl ?_ ?_ <;> intro hb <;> (try simp [xcmp, Int32.lt_iff_toInt_lt, Int32.le_iff_toInt_le] at hb) <;> first | (exfalso; omega) | skip)
    | (refine px_vi rfl rfl rfl rfl rfl ?_; refine Qx.of (Or.inl rfl) (Nat.le_of_ble_eq_true rfl) ?_)
    | (refine px_vc rfl rfl rfl rfl (by decide) ?_; refine Qx.of (Or.inl rfl) (Nat.le_of_ble_eq_true rfl) ?_)
    | (refine px_st rfl rfl rfl rfl rfl ?_; refine Qx.of (Or.inl rfl) (Nat.le_of_ble_eq_true rfl) ?_)
    | (refine px_sw rfl rfl rfl ?_; refine Qx.of (Or.inr rfl) (Nat.le_of_ble_eq_true rfl) ?_)
    | (refine px_sn rfl rfl rfl rfl ?_; refine Qx.of (Or.inl rfl) (Nat.le_of_ble_eq_true rfl) ?_)
    | (refine ⟨_, _, _, rfl, Nat.le_of_ble_eq_true rfl, ?_⟩)
    | exact ⟨_, _, rfl, by simp only [xset, List.length_set, List.length_append, xf3, xf_len.2]; decide, Nat.le_of_ble_eq_true rfl⟩
set_option maxRecDepth 100000 in
set_option maxHeartbeats 4000000 in
theorem p1_c3 {x0 x1 x2 x3 x4 x5 : Int32} (hx : x0 &&& 31 = 3) : Px none (some [x0, x1, x2, x3, x4, x5]) xlaw 23 [(4, .int 0), (3, .ref 158), (2, .ref 78), (1, .ref 4), (0, .ref 0)] [] xf3 (xf2k + 1) xfin := by
  refine p1_head (pc := 336) hx rfl ?_
  repeat' first
    | refine px_step rfl rfl rfl ?_
    | (refine px_ret rfl rfl rfl ?_; try dsimp only [xbk, xbc, xbn])
    | (refine px_thr rfl rfl rfl ?_; try dsimp only [xbk, xbc, xbn])
    | (refine px_if rfl rfl ?_ ?_ <;> intro hb <;> (try simp [xcmp, Int32.lt_iff_toInt_lt, Int32.le_iff_toInt_le] at hb) <;> first | (exfalso; omega) | skip)
    | (refine px_icmp rfl rfl ?_ ?_ <;> intro hb <;> (try simp [xcmp, Int32.lt_iff_toInt_lt, Int32.le_iff_toInt_le] at hb) <;> first | (exfalso; omega) | skip)
    | (refine px_vi rfl rfl rfl rfl rfl ?_; refine Qx.of (Or.inl rfl) (Nat.le_of_ble_eq_true rfl) ?_)
    | (refine px_vc rfl rfl rfl rfl (by decide) ?_; refine Qx.of (Or.inl rfl) (Nat.le_of_ble_eq_true rfl) ?_)
    | (refine px_st rfl rfl rfl rfl rfl ?_; refine Qx.of (Or.inl rfl) (Nat.le_of_ble_eq_true rfl) ?_)
    | (refine px_sw rfl rfl rfl ?_; refine Qx.of (Or.inr rfl) (Nat.le_of_ble_eq_true rfl) ?_)
    | (refine px_sn rfl rfl rfl rfl ?_; refine Qx.of (Or.inl rfl) (Nat.le_of_ble_eq_true rfl) ?_)
    | (refine ⟨_, _, _, rfl, Nat.le_of_ble_eq_true rfl, ?_⟩)
    | exact ⟨_, _, rfl, by simp only [xset, List.length_set, List.length_append, xf3, xf_len.2]; decide, Nat.le_of_ble_eq_true rfl⟩
set_option maxRecDepth 100000 in
set_option maxHeartbeats 4000000 in
theorem p1_c4 {x0 x1 x2 x3 x4 x5 : Int32} (hx : x0 &&& 31 = 4) : Px none (some [x0, x1, x2, x3, x4, x5]) xlaw 23 [(4, .int 0), (3, .ref 158), (2, .ref 78), (1, .ref 4), (0, .ref 0)] [] xf3 (xf2k + 1) xfin := by
  refine p1_head (pc := 404) hx rfl ?_
  repeat' first
    | refine px_step rfl rfl rfl ?_
    | (refine px_ret rfl rfl rfl ?_; try dsimp only [xbk, xbc, xbn])
    | (refine px_thr rfl rfl rfl ?_; try dsimp only [xbk, xbc, xbn])
    | (refine px_if rfl rfl ?_ ?_ <;> intro hb <;> (try simp [xcmp, Int32.lt_iff_toInt_lt, Int32.le_iff_toInt_le] at hb) <;> first | (exfalso; omega) | skip)
    | (refine px_icmp rfl rfl ?_ ?_ <;> intro hb <;> (try simp [xcmp, Int32.lt_iff_toInt_lt, Int32.le_iff_toInt_le] at hb) <;> first | (exfalso; omega) | skip)
    | (refine px_vi rfl rfl rfl rfl rfl ?_; refine Qx.of (Or.inl rfl) (Nat.le_of_ble_eq_true rfl) ?_)
    | (refine px_vc rfl rfl rfl rfl (by decide) ?_; refine Qx.of (Or.inl rfl) (Nat.le_of_ble_eq_true rfl) ?_)
    | (refine px_st rfl rfl rfl rfl rfl ?_; refine Qx.of (Or.inl rfl) (Nat.le_of_ble_eq_true rfl) ?_)
    | (refine px_sw rfl rfl rfl ?_; refine Qx.of (Or.inr rfl) (Nat.le_of_ble_eq_true rfl) ?_)
    | (refine px_sn rfl rfl rfl rfl ?_; refine Qx.of (Or.inl rfl) (Nat.le_of_ble_eq_true rfl) ?_)
    | (refine ⟨_, _, _, rfl, Nat.le_of_ble_eq_true rfl, ?_⟩)
    | exact ⟨_, _, rfl, by simp only [xset, List.length_set, List.length_append, xf3, xf_len.2]; decide, Nat.le_of_ble_eq_true rfl⟩
set_option maxRecDepth 100000 in
set_option maxHeartbeats 4000000 in
theorem p1_c5 {x0 x1 x2 x3 x4 x5 : Int32} (hx : x0 &&& 31 = 5) : Px none (some [x0, x1, x2, x3, x4, x5]) xlaw 23 [(4, .int 0), (3, .ref 158), (2, .ref 78), (1, .ref 4), (0, .ref 0)] [] xf3 (xf2k + 1) xfin := by
  refine p1_head (pc := 448) hx rfl ?_
  repeat' first
    | refine px_step rfl rfl rfl ?_
    | (refine px_ret rfl rfl rfl ?_; try dsimp only [xbk, xbc, xbn])
    | (refine px_thr rfl rfl rfl ?_; try dsimp only [xbk, xbc, xbn])
    | (refine px_if rfl rfl ?_ ?_ <;> intro hb <;> (try simp [xcmp, Int32.lt_iff_toInt_lt, Int32.le_iff_toInt_le] at hb) <;> first | (exfalso; omega) | skip)
    | (refine px_icmp rfl rfl ?_ ?_ <;> intro hb <;> (try simp [xcmp, Int32.lt_iff_toInt_lt, Int32.le_iff_toInt_le] at hb) <;> first | (exfalso; omega) | skip)
    | (refine px_vi rfl rfl rfl rfl rfl ?_; refine Qx.of (Or.inl rfl) (Nat.le_of_ble_eq_true rfl) ?_)
    | (refine px_vc rfl rfl rfl rfl (by decide) ?_; refine Qx.of (Or.inl rfl) (Nat.le_of_ble_eq_true rfl) ?_)
    | (refine px_st rfl rfl rfl rfl rfl ?_; refine Qx.of (Or.inl rfl) (Nat.le_of_ble_eq_true rfl) ?_)
    | (refine px_sw rfl rfl rfl ?_; refine Qx.of (Or.inr rfl) (Nat.le_of_ble_eq_true rfl) ?_)
    | (refine px_sn rfl rfl rfl rfl ?_; refine Qx.of (Or.inl rfl) (Nat.le_of_ble_eq_true rfl) ?_)
    | (refine ⟨_, _, _, rfl, Nat.le_of_ble_eq_true rfl, ?_⟩)
    | exact ⟨_, _, rfl, by simp only [xset, List.length_set, List.length_append, xf3, xf_len.2]; decide, Nat.le_of_ble_eq_true rfl⟩
set_option maxRecDepth 100000 in
set_option maxHeartbeats 4000000 in
theorem p1_c6 {x0 x1 x2 x3 x4 x5 : Int32} (hx : x0 &&& 31 = 6) : Px none (some [x0, x1, x2, x3, x4, x5]) xlaw 23 [(4, .int 0), (3, .ref 158), (2, .ref 78), (1, .ref 4), (0, .ref 0)] [] xf3 (xf2k + 1) xfin := by
  refine p1_head (pc := 528) hx rfl ?_
  repeat' first
    | refine px_step rfl rfl rfl ?_
    | (refine px_ret rfl rfl rfl ?_; try dsimp only [xbk, xbc, xbn])
    | (refine px_thr rfl rfl rfl ?_; try dsimp only [xbk, xbc, xbn])
    | (refine px_if rfl rfl ?_ ?_ <;> intro hb <;> (try simp [xcmp, Int32.lt_iff_toInt_lt, Int32.le_iff_toInt_le] at hb) <;> first | (exfalso; omega) | skip)
    | (refine px_icmp rfl rfl ?_ ?_ <;> intro hb <;> (try simp [xcmp, Int32.lt_iff_toInt_lt, Int32.le_iff_toInt_le] at hb) <;> first | (exfalso; omega) | skip)
    | (refine px_vi rfl rfl rfl rfl rfl ?_; refine Qx.of (Or.inl rfl) (Nat.le_of_ble_eq_true rfl) ?_)
    | (refine px_vc rfl rfl rfl rfl (by decide) ?_; refine Qx.of (Or.inl rfl) (Nat.le_of_ble_eq_true rfl) ?_)
    | (refine px_st rfl rfl rfl rfl rfl ?_; refine Qx.of (Or.inl rfl) (Nat.le_of_ble_eq_true rfl) ?_)
    | (refine px_sw rfl rfl rfl ?_; refine Qx.of (Or.inr rfl) (Nat.le_of_ble_eq_true rfl) ?_)
    | (refine px_sn rfl rfl rfl rfl ?_; refine Qx.of (Or.inl rfl) (Nat.le_of_ble_eq_true rfl) ?_)
    | (refine ⟨_, _, _, rfl, Nat.le_of_ble_eq_true rfl, ?_⟩)
    | exact ⟨_, _, rfl, by simp only [xset, List.length_set, List.length_append, xf3, xf_len.2]; decide, Nat.le_of_ble_eq_true rfl⟩
end XP3
