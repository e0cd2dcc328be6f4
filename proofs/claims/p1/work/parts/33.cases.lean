/-! p1: cases -/
section XP3
set_option maxRecDepth 100000 in
set_option maxHeartbeats 4000000 in
theorem p1_c20 {x0 x1 x2 x3 x4 x5 : Int32} (hx : x0 &&& 31 = 20) : Px none (some [x0, x1, x2, x3, x4, x5]) xlaw 23 [(4, .int 0), (3, .ref 158), (2, .ref 78), (1, .ref 4), (0, .ref 0)] [] xf3 (xf2k + 1) xfin := by
  refine p1_head (pc := 1440) hx rfl ?_
  repeat' first
    | refine px_step rfl rfl rfl ?_
    | (refine px_ret rfl rfl rfl ?_; try dsimp only [xbk, xbc, xbn])
    | (refine px_thr rfl rfl rfl ?_; try dsimp only [xbk, xbc, xbn])
    | (refine px_if rfl rfl ?_ ?_ <;> intro hb <;> (try simp [xcmp, Int32.lt_iff_toInt_lt, Int32.le_iff_toInt_le] at hb) <;> first | (exfalso; omega) | skip)
    | (refine px_icmp rfl rfl ?_ ?_ <;> intro hb <;> (try simp [xcmp, Int32.lt_iff_toInt_lt, Int32.le_iff_toInt_le] at hb) <;> first | (exfalso; omega) | skip)
    | (refine px_vi rfl rfl rfl rfl rfl ?_; refine Qx.of (Or.inl rfl) (Nat.le_of_ble_eq_true rfl) ?_)
    | (refine px_vc rfl rfl rfl rfl (by decide) ?_; refine Qx.of (Or.inl rfl) (Nat.le_of_ble_eq_true rfl) ?_)
    | (refine px_st rfl rfl rfl rfl rfl ?_; refine Qx.of (Or.inl rfl) (Nat.le_of_ble_eq_true rfl) ?_)
    | (refine px_sw rfl rfl rfl ?_; refine Qx.of (Or.inr rfl) (Nat.le_of_ble_eq_true rfl) ?_)
    | (refine px_sn rfl rfl rfl rfl ?_; refine Qx.of (Or.inl rfl) (Nat.le_of_ble_eq_true rfl) ?_)
    | (refine ⟨_, _, _, rfl, Nat.le_of_ble_eq_true rfl, ?_⟩)
    | exact ⟨_, _, rfl, by simp only [xset, List.length_set, List.length_append, xf3, xf_len.2]; decide, Nat.le_of_ble_eq_true rfl⟩
set_option maxRecDepth 100000 in
set_option maxHeartbeats 4000000 in
theorem p1_c21 {x0 x1 x2 x3 x4 x5 : Int32} (hx : x0 &&& 31 = 21) : Px none (some [x0, x1, x2, x3, x4, x5]) xlaw 23 [(4, .int 0), (3, .ref 158), (2, .ref 78), (1, .ref 4), (0, .ref 0)] [] xf3 (xf2k + 1) xfin := by
  refine p1_head (pc := 1544) hx rfl ?_
  repeat' first
    | refine px_step rfl rfl rfl ?_
    | (refine px_ret rfl rfl rfl ?_; try dsimp only [xbk, xbc, xbn])
    | (refine px_thr rfl rfl rfl ?_; try dsimp only [xbk, xbc, xbn])
    | (refine px_if rfl rfl ?_ ?_ <;> intro hb <;> (try simp [xcmp, Int32.lt_iff_toInt_lt, Int32.le_iff_toInt_le] at hb) <;> first | (exfalso; omega) | skip)
    | (refine px_icmp rfl rfl ?_ ?_ <;> intro hb <;> (try simp [xcmp, Int32.lt_iff_toInt_lt, Int32.le_iff_toInt_le] at hb) <;> first | (exfalso; omega) | skip)
    | (refine px_vi rfl rfl rfl rfl rfl ?_; refine Qx.of (Or.inl rfl) (Nat.le_of_ble_eq_true rfl) ?_)
    | (refine px_vc rfl rfl rfl rfl (by decide) ?_; refine Qx.of (Or.inl rfl) (Nat.le_of_ble_eq_true rfl) ?_)
    | (refine px_st rfl rfl rfl rfl rfl ?_; refine Qx.of (Or.inl rfl) (Nat.le_of_ble_eq_true rfl) ?_)
    | (refine px_sw rfl rfl rfl ?_; refine Qx.of (Or.inr rfl) (Nat.le_of_ble_eq_true rfl) ?_)
    | (refine px_sn rfl rfl rfl rfl ?_; refine Qx.of (Or.inl rfl) (Nat.le_of_ble_eq_true rfl) ?_)
    | (refine ⟨_, _, _, rfl, Nat.le_of_ble_eq_true rfl, ?_⟩)
    | exact ⟨_, _, rfl, by simp only [xset, List.length_set, List.length_append, xf3, xf_len.2]; decide, Nat.le_of_ble_eq_true rfl⟩
set_option maxRecDepth 100000 in
set_option maxHeartbeats 4000000 in
theorem p1_c22 {x0 x1 x2 x3 x4 x5 : Int32} (hx : x0 &&& 31 = 22) : Px none (some [x0, x1, x2, x3, x4, x5]) xlaw 23 [(4, .int 0), (3, .ref 158), (2, .ref 78), (1, .ref 4), (0, .ref 0)] [] xf3 (xf2k + 1) xfin := by
  refine p1_head (pc := 1624) hx rfl ?_
  repeat' first
    | refine px_step rfl rfl rfl ?_
    | (refine px_ret rfl rfl rfl ?_; try dsimp only [xbk, xbc, xbn])
    | (refine px_thr rfl rfl rfl ?_; try dsimp only [xbk, xbc, xbn])
    | (refine px_if rfl rfl ?_ ?_ <;> intro hb <;> (try simp [xcmp, Int32.lt_iff_toInt_lt, Int32.le_iff_toInt_le] at hb) <;> first | (exfalso; omega) | skip)
    | (refine px_icmp rfl rfl ?_ ?_ <;> intro hb <;> (try simp [xcmp, Int32.lt_iff_toInt_lt, Int32.le_iff_toInt_le] at hb) <;> first | (exfalso; omega) | skip)
    | (refine px_vi rfl rfl rfl rfl rfl ?_; refine Qx.of (Or.inl rfl) (Nat.le_of_ble_eq_true rfl) ?_)
    | (refine px_vc rfl rfl rfl rfl (by decide) ?_; refine Qx.of (Or.inl rfl) (Nat.le_of_ble_eq_true rfl) ?_)
    | (refine px_st rfl rfl rfl rfl rfl ?_; refine Qx.of (Or.inl rfl) (Nat.le_of_ble_eq_true rfl) ?_)
    | (refine px_sw rfl rfl rfl ?_; refine Qx.of (Or.inr rfl) (Nat.le_of_ble_eq_true rfl) ?_)
    | (refine px_sn rfl rfl rfl rfl ?_; refine Qx.of (Or.inl rfl) (Nat.le_of_ble_eq_true rfl) ?_)
    | (refine ⟨_, _, _, rfl, Nat.le_of_ble_eq_true rfl, ?_⟩)
    | exact ⟨_, _, rfl, by simp only [xset, List.length_set, List.length_append, xf3, xf_len.2]; decide, Nat.le_of_ble_eq_true rfl⟩
set_option maxRecDepth 100000 in
set_option maxHeartbeats 4000000 in
theorem p1_c23 {x0 x1 x2 x3 x4 x5 : Int32} (hx : x0 &&& 31 = 23) : Px none (some [x0, x1, x2, x3, x4, x5]) xlaw 23 [(4, .int 0), (3, .ref 158), (2, .ref 78), (1, .ref 4), (0, .ref 0)] [] xf3 (xf2k + 1) xfin := by
  refine p1_head (pc := 1692) hx rfl ?_
  repeat' first
    | refine px_step rfl rfl rfl ?_
    | (refine px_ret rfl rfl rfl ?_; try dsimp only [xbk, xbc, xbn])
    | (refine px_thr rfl rfl rfl ?_; try dsimp only [xbk, xbc, xbn])
    | (refine px_if rfl rfl ?_ ?_ <;> intro hb <;> (try simp [xcmp, Int32.lt_iff_toInt_lt, Int32.le_iff_toInt_le] at hb) <;> first | (exfalso; omega) | skip)
    | (refine px_icmp rfl rfl ?_ ?_ <;> intro hb <;> (try simp [xcmp, Int32.lt_iff_toInt_lt, Int32.le_iff_toInt_le] at hb) <;> first | (exfalso; omega) | skip)
    | (refine px_vi rfl rfl rfl rfl rfl ?_; refine Qx.of (Or.inl rfl) (Nat.le_of_ble_eq_true rfl) ?_)
    | (refine px_vc rfl rfl rfl rfl (by decide) ?_; refine Qx.of (Or.inl rfl) (Nat.le_of_ble_eq_true rfl) ?_)
    | (refine px_st rfl rfl rfl rfl rfl ?_; refine Qx.of (Or.inl rfl) (Nat.le_of_ble_eq_true rfl) ?_)
    | (refine px_sw rfl rfl rfl ?_; refine Qx.of (Or.inr rfl) (Nat.le_of_ble_eq_true rfl) ?_)
    | (refine px_sn rfl rfl rfl rfl ?_; refine Qx.of (Or.inl rfl) (Nat.le_of_ble_eq_true rfl) ?_)
    | (refine ⟨_, _, _, rfl, Nat.le_of_ble_eq_true rfl, ?_⟩)
    | exact ⟨_, _, rfl, by simp only [xset, List.length_set, List.length_append, xf3, xf_len.2]; decide, Nat.le_of_ble_eq_true rfl⟩
end XP3
