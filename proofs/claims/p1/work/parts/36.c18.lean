/-! p1: many -/
section XP3
set_option maxRecDepth 100000 in
set_option maxHeartbeats 4000000 in
theorem p1_m0 {x0 x2 x3 x4 x5 : Int32} : Px none (some [x0, 0, x2, x3, x4, x5]) xlaw 1343 [(4, .int 0), (3, .ref 158), (2, .ref 78), (1, .ref 4), (0, .ref 0)] [] xf3 (xf2k + 1) xfin := by
  refine px_step rfl rfl rfl ?_
  refine px_step rfl rfl rfl ?_
  refine px_step rfl rfl rfl ?_
  refine px_step rfl rfl rfl ?_
  refine px_step rfl rfl rfl ?_
  refine px_step (st' := [.int 0, .ref 4]) rfl rfl rfl ?_
  refine px_step rfl rfl rfl ?_
  refine px_sw rfl rfl rfl (Qx.at (cl_i (F := 3000) (d := 8) (v := 0) (h2 := xf3) (ks2 := xf2k + 1) (by decide +kernel)) ?_)
  dsimp only [xbn]
  refine px_step rfl rfl rfl ?_
  refine px_step rfl rfl rfl ?_
  refine px_step rfl rfl rfl ?_
  refine px_step rfl rfl rfl ?_
  refine px_step rfl rfl rfl ?_
  refine px_step rfl rfl rfl ?_
  refine px_step (st' := [.int 0, .ref 78]) rfl rfl rfl ?_
  refine px_vi rfl rfl rfl rfl rfl (Qx.at (cl_i (F := 3000) (d := 8) (v := 0) (h2 := xf3 ++ [(100, List.replicate 11 (.int 0))]) (ks2 := xf2k + 1 + 11) (by decide +kernel)) ?_)
  dsimp only [xbk]
  repeat' first
    | refine px_step rfl rfl rfl ?_
    | (refine px_ret rfl rfl rfl ?_; try dsimp only [xbk, xbc, xbn])
    | (refine px_thr rfl rfl rfl ?_; try dsimp only [xbk, xbc, xbn])
    | (refine px_if rfl rfl ?_ ?_ <;> intro hb <;> (try simp [xcmp, Int32.lt_iff_toInt_lt, Int32.le_iff_toInt_le] at hb) <;> first | (exfalso; omega) | skip)
    | (refine px_icmp rfl rfl ?_ ?_ <;> intro hb <;> (try simp [xcmp, Int32.lt_iff_toInt_lt, Int32.le_iff_toInt_le] at hb) <;> first | (exfalso; omega) | skip)
    | (refine px_vi rfl rfl rfl rfl rfl ?_; refine Qx.of (Or.inl rfl) (Nat.le_of_ble_eq_true rfl) ?_)
    | (refine px_vc rfl rfl rfl rfl (by decide) ?_; refine Qx.of (Or.inl rfl) (Nat.le_of_ble_eq_true rfl) ?_)
    | (refine px_st rfl rfl rfl rfl rfl ?_; refine Qx.of (Or.inl rfl) (Nat.le_of_ble_eq_true rfl) ?_)
    | (refine px_sw rfl rfl rfl ?_; refine Qx.of (Or.inr rfl) (Nat.le_of_ble_eq_true rfl) ?_)
    | (refine px_sn rfl rfl rfl rfl ?_; refine Qx.of (Or.inl rfl) (Nat.le_of_ble_eq_true rfl) ?_)
    | (refine ⟨_, _, _, rfl, Nat.le_of_ble_eq_true rfl, ?_⟩)
    | exact ⟨_, _, rfl, by simp only [xset, List.length_set, List.length_append, xf3, xf_len.2]; decide, Nat.le_of_ble_eq_true rfl⟩
set_option maxRecDepth 100000 in
set_option maxHeartbeats 4000000 in
theorem p1_m1 {x0 x2 x3 x4 x5 : Int32} : Px none (some [x0, 1, x2, x3, x4, x5]) xlaw 1343 [(4, .int 0), (3, .ref 158), (2, .ref 78), (1, .ref 4), (0, .ref 0)] [] xf3 (xf2k + 1) xfin := by
  refine px_step rfl rfl rfl ?_
  refine px_step rfl rfl rfl ?_
  refine px_step rfl rfl rfl ?_
  refine px_step rfl rfl rfl ?_
  refine px_step rfl rfl rfl ?_
  refine px_step (st' := [.int 1, .ref 4]) rfl rfl rfl ?_
  refine px_step rfl rfl rfl ?_
  refine px_sw rfl rfl rfl (Qx.at (cl_i (F := 3000) (d := 8) (v := 0) (h2 := xf3) (ks2 := xf2k + 1) (by decide +kernel)) ?_)
  dsimp only [xbn]
  refine px_step rfl rfl rfl ?_
  refine px_step rfl rfl rfl ?_
  refine px_step rfl rfl rfl ?_
  refine px_step rfl rfl rfl ?_
  refine px_step rfl rfl rfl ?_
  refine px_step rfl rfl rfl ?_
  refine px_step (st' := [.int 1, .ref 78]) rfl rfl rfl ?_
  refine px_vi rfl rfl rfl rfl rfl (Qx.at (cl_i (F := 3000) (d := 8) (v := 0) (h2 := xf3 ++ [(100, List.replicate 11 (.int 0))]) (ks2 := xf2k + 1 + 11) (by decide +kernel)) ?_)
  dsimp only [xbk]
  repeat' first
    | refine px_step rfl rfl rfl ?_
    | (refine px_ret rfl rfl rfl ?_; try dsimp only [xbk, xbc, xbn])
    | (refine px_thr rfl rfl rfl ?_; try dsimp only [xbk, xbc, xbn])
    | (refine px_if rfl rfl ?_ ?_ <;> intro hb <;> (try simp [xcmp, Int32.lt_iff_toInt_lt, Int32.le_iff_toInt_le] at hb) <;> first | (exfalso; omega) | skip)
    | (refine px_icmp rfl rfl ?_ ?_ <;> intro hb <;> (try simp [xcmp, Int32.lt_iff_toInt_lt, Int32.le_iff_toInt_le] at hb) <;> first | (exfalso; omega) | skip)
    | (refine px_vi rfl rfl rfl rfl rfl ?_; refine Qx.of (Or.inl rfl) (Nat.le_of_ble_eq_true rfl) ?_)
    | (refine px_vc rfl rfl rfl rfl (by decide) ?_; refine Qx.of (Or.inl rfl) (Nat.le_of_ble_eq_true rfl) ?_)
    | (refine px_st rfl rfl rfl rfl rfl ?_; refine Qx.of (Or.inl rfl) (Nat.le_of_ble_eq_true rfl) ?_)
    | (refine px_sw rfl rfl rfl ?_; refine Qx.of (Or.inr rfl) (Nat.le_of_ble_eq_true rfl) ?_)
    | (refine px_sn rfl rfl rfl rfl ?_; refine Qx.of (Or.inl rfl) (Nat.le_of_ble_eq_true rfl) ?_)
    | (refine ⟨_, _, _, rfl, Nat.le_of_ble_eq_true rfl, ?_⟩)
    | exact ⟨_, _, rfl, by simp only [xset, List.length_set, List.length_append, xf3, xf_len.2]; decide, Nat.le_of_ble_eq_true rfl⟩
set_option maxRecDepth 100000 in
set_option maxHeartbeats 4000000 in
theorem p1_m2 {x0 x2 x3 x4 x5 : Int32} : Px none (some [x0, 2, x2, x3, x4, x5]) xlaw 1343 [(4, .int 0), (3, .ref 158), (2, .ref 78), (1, .ref 4), (0, .ref 0)] [] xf3 (xf2k + 1) xfin := by
  refine px_step rfl rfl rfl ?_
  refine px_step rfl rfl rfl ?_
  refine px_step rfl rfl rfl ?_
  refine px_step rfl rfl rfl ?_
  refine px_step rfl rfl rfl ?_
  refine px_step (st' := [.int 2, .ref 4]) rfl rfl rfl ?_
  refine px_step rfl rfl rfl ?_
  refine px_sw rfl rfl rfl (Qx.at (cl_i (F := 3000) (d := 8) (v := 0) (h2 := xf3) (ks2 := xf2k + 1) (by decide +kernel)) ?_)
  dsimp only [xbn]
  refine px_step rfl rfl rfl ?_
  refine px_step rfl rfl rfl ?_
  refine px_step rfl rfl rfl ?_
  refine px_step rfl rfl rfl ?_
  refine px_step rfl rfl rfl ?_
  refine px_step rfl rfl rfl ?_
  refine px_step (st' := [.int 2, .ref 78]) rfl rfl rfl ?_
  refine px_vi rfl rfl rfl rfl rfl (Qx.at (cl_i (F := 3000) (d := 8) (v := 0) (h2 := xf3 ++ [(100, List.replicate 11 (.int 0))]) (ks2 := xf2k + 1 + 11) (by decide +kernel)) ?_)
  dsimp only [xbk]
  repeat' first
    | refine px_step rfl rfl rfl ?_
    | (refine px_ret rfl rfl rfl ?_; try dsimp only [xbk, xbc, xbn])
    | (refine px_thr rfl rfl rfl ?_; try dsimp only [xbk, xbc, xbn])
    | (refine px_if rfl rfl ?_ ?_ <;> intro hb <;> (try simp [xcmp, Int32.lt_iff_toInt_lt, Int32.le_iff_toInt_le] at hb) <;> first | (exfalso; omega) | skip)
    | (refine px_icmp rfl rfl ?_ ?_ <;> intro hb <;> (try simp [xcmp, Int32.lt_iff_toInt_lt, Int32.le_iff_toInt_le] at hb) <;> first | (exfalso; omega) | skip)
    | (refine px_vi rfl rfl rfl rfl rfl ?_; refine Qx.of (Or.inl rfl) (Nat.le_of_ble_eq_true rfl) ?_)
    | (refine px_vc rfl rfl rfl rfl (by decide) ?_; refine Qx.of (Or.inl rfl) (Nat.le_of_ble_eq_true rfl) ?_)
    | (refine px_st rfl rfl rfl rfl rfl ?_; refine Qx.of (Or.inl rfl) (Nat.le_of_ble_eq_true rfl) ?_)
    | (refine px_sw rfl rfl rfl ?_; refine Qx.of (Or.inr rfl) (Nat.le_of_ble_eq_true rfl) ?_)
    | (refine px_sn rfl rfl rfl rfl ?_; refine Qx.of (Or.inl rfl) (Nat.le_of_ble_eq_true rfl) ?_)
    | (refine ⟨_, _, _, rfl, Nat.le_of_ble_eq_true rfl, ?_⟩)
    | exact ⟨_, _, rfl, by simp only [xset, List.length_set, List.length_append, xf3, xf_len.2]; decide, Nat.le_of_ble_eq_true rfl⟩
set_option maxRecDepth 100000 in
set_option maxHeartbeats 4000000 in
theorem p1_m3 {x0 x2 x3 x4 x5 : Int32} : Px none (some [x0, 3, x2, x3, x4, x5]) xlaw 1343 [(4, .int 0), (3, .ref 158), (2, .ref 78), (1, .ref 4), (0, .ref 0)] [] xf3 (xf2k + 1) xfin := by
  refine px_step rfl rfl rfl ?_
  refine px_step rfl rfl rfl ?_
  refine px_step rfl rfl rfl ?_
  refine px_step rfl rfl rfl ?_
  refine px_step rfl rfl rfl ?_
  refine px_step (st' := [.int 3, .ref 4]) rfl rfl rfl ?_
  refine px_step rfl rfl rfl ?_
  refine px_sw rfl rfl rfl (Qx.at (cl_i (F := 3000) (d := 8) (v := 0) (h2 := xf3) (ks2 := xf2k + 1) (by decide +kernel)) ?_)
  dsimp only [xbn]
  refine px_step rfl rfl rfl ?_
  refine px_step rfl rfl rfl ?_
  refine px_step rfl rfl rfl ?_
  refine px_step rfl rfl rfl ?_
  refine px_step rfl rfl rfl ?_
  refine px_step rfl rfl rfl ?_
  refine px_step (st' := [.int 3, .ref 78]) rfl rfl rfl ?_
  refine px_vi rfl rfl rfl rfl rfl (Qx.at (cl_i (F := 3000) (d := 8) (v := 0) (h2 := xf3 ++ [(100, List.replicate 11 (.int 0))]) (ks2 := xf2k + 1 + 11) (by decide +kernel)) ?_)
  dsimp only [xbk]
  repeat' first
    | refine px_step rfl rfl rfl ?_
    | (refine px_ret rfl rfl rfl ?_; try dsimp only [xbk, xbc, xbn])
    | (refine px_thr rfl rfl rfl ?_; try dsimp only [xbk, xbc, xbn])
    | (refine px_if rfl rfl ?_ ?_ <;> intro hb <;> (try simp [xcmp, Int32.lt_iff_toInt_lt, Int32.le_iff_toInt_le] at hb) <;> first | (exfalso; omega) | skip)
    | (refine px_icmp rfl rfl ?_ ?_ <;> intro hb <;> (try simp [xcmp, Int32.lt_iff_toInt_lt, Int32.le_iff_toInt_le] at hb) <;> first | (exfalso; omega) | skip)
    | (refine px_vi rfl rfl rfl rfl rfl ?_; refine Qx.of (Or.inl rfl) (Nat.le_of_ble_eq_true rfl) ?_)
    | (refine px_vc rfl rfl rfl rfl (by decide) ?_; refine Qx.of (Or.inl rfl) (Nat.le_of_ble_eq_true rfl) ?_)
    | (refine px_st rfl rfl rfl rfl rfl ?_; refine Qx.of (Or.inl rfl) (Nat.le_of_ble_eq_true rfl) ?_)
    | (refine px_sw rfl rfl rfl ?_; refine Qx.of (Or.inr rfl) (Nat.le_of_ble_eq_true rfl) ?_)
    | (refine px_sn rfl rfl rfl rfl ?_; refine Qx.of (Or.inl rfl) (Nat.le_of_ble_eq_true rfl) ?_)
    | (refine ⟨_, _, _, rfl, Nat.le_of_ble_eq_true rfl, ?_⟩)
    | exact ⟨_, _, rfl, by simp only [xset, List.length_set, List.length_append, xf3, xf_len.2]; decide, Nat.le_of_ble_eq_true rfl⟩
set_option maxRecDepth 100000 in
set_option maxHeartbeats 4000000 in
theorem p1_m4 {x0 x2 x3 x4 x5 : Int32} : Px none (some [x0, 4, x2, x3, x4, x5]) xlaw 1343 [(4, .int 0), (3, .ref 158), (2, .ref 78), (1, .ref 4), (0, .ref 0)] [] xf3 (xf2k + 1) xfin := by
  refine px_step rfl rfl rfl ?_
  refine px_step rfl rfl rfl ?_
  refine px_step rfl rfl rfl ?_
  refine px_step rfl rfl rfl ?_
  refine px_step rfl rfl rfl ?_
  refine px_step (st' := [.int 4, .ref 4]) rfl rfl rfl ?_
  refine px_step rfl rfl rfl ?_
  refine px_sw rfl rfl rfl (Qx.at (cl_i (F := 3000) (d := 8) (v := 0) (h2 := xf3) (ks2 := xf2k + 1) (by decide +kernel)) ?_)
  dsimp only [xbn]
  refine px_step rfl rfl rfl ?_
  refine px_step rfl rfl rfl ?_
  refine px_step rfl rfl rfl ?_
  refine px_step rfl rfl rfl ?_
  refine px_step rfl rfl rfl ?_
  refine px_step rfl rfl rfl ?_
  refine px_step (st' := [.int 4, .ref 78]) rfl rfl rfl ?_
  refine px_vi rfl rfl rfl rfl rfl (Qx.at (cl_i (F := 3000) (d := 8) (v := 0) (h2 := xf3 ++ [(100, List.replicate 11 (.int 0))]) (ks2 := xf2k + 1 + 11) (by decide +kernel)) ?_)
  dsimp only [xbk]
  repeat' first
    | refine px_step rfl rfl rfl ?_
    | (refine px_ret rfl rfl rfl ?_; try dsimp only [xbk, xbc, xbn])
    | (refine px_thr rfl rfl rfl ?_; try dsimp only [xbk, xbc, xbn])
    | (refine px_if rfl rfl ?_ ?_ <;> intro hb <;> (try simp [xcmp, Int32.lt_iff_toInt_lt, Int32.le_iff_toInt_le] at hb) <;> first | (exfalso; omega) | skip)
    | (refine px_icmp rfl rfl ?_ ?_ <;> intro hb <;> (try simp [xcmp, Int32.lt_iff_toInt_lt, Int32.le_iff_toInt_le] at hb) <;> first | (exfalso; omega) | skip)
    | (refine px_vi rfl rfl rfl rfl rfl ?_; refine Qx.of (Or.inl rfl) (Nat.le_of_ble_eq_true rfl) ?_)
    | (refine px_vc rfl rfl rfl rfl (by decide) ?_; refine Qx.of (Or.inl rfl) (Nat.le_of_ble_eq_true rfl) ?_)
    | (refine px_st rfl rfl rfl rfl rfl ?_; refine Qx.of (Or.inl rfl) (Nat.le_of_ble_eq_true rfl) ?_)
    | (refine px_sw rfl rfl rfl ?_; refine Qx.of (Or.inr rfl) (Nat.le_of_ble_eq_true rfl) ?_)
    | (refine px_sn rfl rfl rfl rfl ?_; refine Qx.of (Or.inl rfl) (Nat.le_of_ble_eq_true rfl) ?_)
    | (refine ⟨_, _, _, rfl, Nat.le_of_ble_eq_true rfl, ?_⟩)
    | exact ⟨_, _, rfl, by simp only [xset, List.length_set, List.length_append, xf3, xf_len.2]; decide, Nat.le_of_ble_eq_true rfl⟩
set_option maxRecDepth 100000 in
set_option maxHeartbeats 4000000 in
theorem p1_m5 {x0 x2 x3 x4 x5 : Int32} : Px none (some [x0, 5, x2, x3, x4, x5]) xlaw 1343 [(4, .int 0), (3, .ref 158), (2, .ref 78), (1, .ref 4), (0, .ref 0)] [] xf3 (xf2k + 1) xfin := by
  refine px_step rfl rfl rfl ?_
  refine px_step rfl rfl rfl ?_
  refine px_step rfl rfl rfl ?_
  refine px_step rfl rfl rfl ?_
  refine px_step rfl rfl rfl ?_
  refine px_step (st' := [.int 5, .ref 4]) rfl rfl rfl ?_
  refine px_step rfl rfl rfl ?_
  refine px_sw rfl rfl rfl (Qx.at (cl_i (F := 3000) (d := 8) (v := 0) (h2 := xf3) (ks2 := xf2k + 1) (by decide +kernel)) ?_)
  dsimp only [xbn]
  refine px_step rfl rfl rfl ?_
  refine px_step rfl rfl rfl ?_
  refine px_step rfl rfl rfl ?_
  refine px_step rfl rfl rfl ?_
  refine px_step rfl rfl rfl ?_
  refine px_step rfl rfl rfl ?_
  refine px_step (st' := [.int 5, .ref 78]) rfl rfl rfl ?_
  refine px_vi rfl rfl rfl rfl rfl (Qx.at (cl_i (F := 3000) (d := 8) (v := 0) (h2 := xf3 ++ [(100, List.replicate 11 (.int 0))]) (ks2 := xf2k + 1 + 11) (by decide +kernel)) ?_)
  dsimp only [xbk]
  repeat' first
    | refine px_step rfl rfl rfl ?_
    | (refine px_ret rfl rfl rfl ?_; try dsimp only [xbk, xbc, xbn])
    | (refine px_thr rfl rfl rfl ?_; try dsimp only [xbk, xbc, xbn])
    | (refine px_if rfl rfl ?_ ?_ <;> intro hb <;> (try simp [xcmp, Int32.lt_iff_toInt_lt, Int32.le_iff_toInt_le] at hb) <;> first | (exfalso; omega) | skip)
    | (refine px_icmp rfl rfl ?_ ?_ <;> intro hb <;> (try simp [xcmp, Int32.lt_iff_toInt_lt, Int32.le_iff_toInt_le] at hb) <;> first | (exfalso; omega) | skip)
    | (refine px_vi rfl rfl rfl rfl rfl ?_; refine Qx.of (Or.inl rfl) (Nat.le_of_ble_eq_true rfl) ?_)
    | (refine px_vc rfl rfl rfl rfl (by decide) ?_; refine Qx.of (Or.inl rfl) (Nat.le_of_ble_eq_true rfl) ?_)
    | (refine px_st rfl rfl rfl rfl rfl ?_; refine Qx.of (Or.inl rfl) (Nat.le_of_ble_eq_true rfl) ?_)
    | (refine px_sw rfl rfl rfl ?_; refine Qx.of (Or.inr rfl) (Nat.le_of_ble_eq_true rfl) ?_)
    | (refine px_sn rfl rfl rfl rfl ?_; refine Qx.of (Or.inl rfl) (Nat.le_of_ble_eq_true rfl) ?_)
    | (refine ⟨_, _, _, rfl, Nat.le_of_ble_eq_true rfl, ?_⟩)
    | exact ⟨_, _, rfl, by simp only [xset, List.length_set, List.length_append, xf3, xf_len.2]; decide, Nat.le_of_ble_eq_true rfl⟩
set_option maxRecDepth 100000 in
set_option maxHeartbeats 4000000 in
theorem p1_m6 {x0 x2 x3 x4 x5 : Int32} : Px none (some [x0, 6, x2, x3, x4, x5]) xlaw 1343 [(4, .int 0), (3, .ref 158), (2, .ref 78), (1, .ref 4), (0, .ref 0)] [] xf3 (xf2k + 1) xfin := by
  refine px_step rfl rfl rfl ?_
  refine px_step rfl rfl rfl ?_
  refine px_step rfl rfl rfl ?_
  refine px_step rfl rfl rfl ?_
  refine px_step rfl rfl rfl ?_
  refine px_step (st' := [.int 6, .ref 4]) rfl rfl rfl ?_
  refine px_step rfl rfl rfl ?_
  refine px_sw rfl rfl rfl (Qx.at (cl_i (F := 3000) (d := 8) (v := 0) (h2 := xf3) (ks2 := xf2k + 1) (by decide +kernel)) ?_)
  dsimp only [xbn]
  refine px_step rfl rfl rfl ?_
  refine px_step rfl rfl rfl ?_
  refine px_step rfl rfl rfl ?_
  refine px_step rfl rfl rfl ?_
  refine px_step rfl rfl rfl ?_
  refine px_step rfl rfl rfl ?_
  refine px_step (st' := [.int 6, .ref 78]) rfl rfl rfl ?_
  refine px_vi rfl rfl rfl rfl rfl (Qx.at (cl_i (F := 3000) (d := 8) (v := 0) (h2 := xf3 ++ [(100, List.replicate 11 (.int 0))]) (ks2 := xf2k + 1 + 11) (by decide +kernel)) ?_)
  dsimp only [xbk]
  repeat' first
    | refine px_step rfl rfl rfl ?_
    | (refine px_ret rfl rfl rfl ?_; try dsimp only [xbk, xbc, xbn])
    | (refine px_thr rfl rfl rfl ?_; try dsimp only [xbk, xbc, xbn])
    | (refine px_if rfl rfl ?_ ?_ <;> intro hb <;> (try simp [xcmp, Int32.lt_iff_toInt_lt, Int32.le_iff_toInt_le] at hb) <;> first | (exfalso; omega) | skip)
    | (refine px_icmp rfl rfl ?_ ?_ <;> intro hb <;> (try simp [xcmp, Int32.lt_iff_toInt_lt, Int32.le_iff_toInt_le] at hb) <;> first | (exfalso; omega) | skip)
    | (refine px_vi rfl rfl rfl rfl rfl ?_; refine Qx.of (Or.inl rfl) (Nat.le_of_ble_eq_true rfl) ?_)
    | (refine px_vc rfl rfl rfl rfl (by decide) ?_; refine Qx.of (Or.inl rfl) (Nat.le_of_ble_eq_true rfl) ?_)
    | (refine px_st rfl rfl rfl rfl rfl ?_; refine Qx.of (Or.inl rfl) (Nat.le_of_ble_eq_true rfl) ?_)
    | (refine px_sw rfl rfl rfl ?_; refine Qx.of (Or.inr rfl) (Nat.le_of_ble_eq_true rfl) ?_)
    | (refine px_sn rfl rfl rfl rfl ?_; refine Qx.of (Or.inl rfl) (Nat.le_of_ble_eq_true rfl) ?_)
    | (refine ⟨_, _, _, rfl, Nat.le_of_ble_eq_true rfl, ?_⟩)
    | exact ⟨_, _, rfl, by simp only [xset, List.length_set, List.length_append, xf3, xf_len.2]; decide, Nat.le_of_ble_eq_true rfl⟩
set_option maxRecDepth 100000 in
set_option maxHeartbeats 4000000 in
theorem p1_m7 {x0 x2 x3 x4 x5 : Int32} : Px none (some [x0, 7, x2, x3, x4, x5]) xlaw 1343 [(4, .int 0), (3, .ref 158), (2, .ref 78), (1, .ref 4), (0, .ref 0)] [] xf3 (xf2k + 1) xfin := by
  refine px_step rfl rfl rfl ?_
  refine px_step rfl rfl rfl ?_
  refine px_step rfl rfl rfl ?_
  refine px_step rfl rfl rfl ?_
  refine px_step rfl rfl rfl ?_
  refine px_step (st' := [.int 7, .ref 4]) rfl rfl rfl ?_
  refine px_step rfl rfl rfl ?_
  refine px_sw rfl rfl rfl (Qx.at (cl_i (F := 3000) (d := 8) (v := 0) (h2 := xf3) (ks2 := xf2k + 1) (by decide +kernel)) ?_)
  dsimp only [xbn]
  refine px_step rfl rfl rfl ?_
  refine px_step rfl rfl rfl ?_
  refine px_step rfl rfl rfl ?_
  refine px_step rfl rfl rfl ?_
  refine px_step rfl rfl rfl ?_
  refine px_step rfl rfl rfl ?_
  refine px_step (st' := [.int 7, .ref 78]) rfl rfl rfl ?_
  refine px_vi rfl rfl rfl rfl rfl (Qx.at (cl_i (F := 3000) (d := 8) (v := 0) (h2 := xf3 ++ [(100, List.replicate 11 (.int 0))]) (ks2 := xf2k + 1 + 11) (by decide +kernel)) ?_)
  dsimp only [xbk]
  repeat' first
    | refine px_step rfl rfl rfl ?_
    | (refine px_ret rfl rfl rfl ?_; try dsimp only [xbk, xbc, xbn])
    | (refine px_thr rfl rfl rfl ?_; try dsimp only [xbk, xbc, xbn])
    | (refine px_if rfl rfl ?_ ?_ <;> intro hb <;> (try simp [xcmp, Int32.lt_iff_toInt_lt, Int32.le_iff_toInt_le] at hb) <;> first | (exfalso; omega) | skip)
    | (refine px_icmp rfl rfl ?_ ?_ <;> intro hb <;> (try simp [xcmp, Int32.lt_iff_toInt_lt, Int32.le_iff_toInt_le] at hb) <;> first | (exfalso; omega) | skip)
    | (refine px_vi rfl rfl rfl rfl rfl ?_; refine Qx.of (Or.inl rfl) (Nat.le_of_ble_eq_true rfl) ?_)
    | (refine px_vc rfl rfl rfl rfl (by decide) ?_; refine Qx.of (Or.inl rfl) (Nat.le_of_ble_eq_true rfl) ?_)
    | (refine px_st rfl rfl rfl rfl rfl ?_; refine Qx.of (Or.inl rfl) (Nat.le_of_ble_eq_true rfl) ?_)
    | (refine px_sw rfl rfl rfl ?_; refine Qx.of (Or.inr rfl) (Nat.le_of_ble_eq_true rfl) ?_)
    | (refine px_sn rfl rfl rfl rfl ?_; refine Qx.of (Or.inl rfl) (Nat.le_of_ble_eq_true rfl) ?_)
    | (refine ⟨_, _, _, rfl, Nat.le_of_ble_eq_true rfl, ?_⟩)
    | exact ⟨_, _, rfl, by simp only [xset, List.length_set, List.length_append, xf3, xf_len.2]; decide, Nat.le_of_ble_eq_true rfl⟩
set_option maxRecDepth 100000 in
set_option maxHeartbeats 4000000 in
theorem p1_m8 {x0 x2 x3 x4 x5 : Int32} : Px none (some [x0, 8, x2, x3, x4, x5]) xlaw 1343 [(4, .int 0), (3, .ref 158), (2, .ref 78), (1, .ref 4), (0, .ref 0)] [] xf3 (xf2k + 1) xfin := by
  refine px_step rfl rfl rfl ?_
  refine px_step rfl rfl rfl ?_
  refine px_step rfl rfl rfl ?_
  refine px_step rfl rfl rfl ?_
  refine px_step rfl rfl rfl ?_
  refine px_step (st' := [.int 8, .ref 4]) rfl rfl rfl ?_
  refine px_step rfl rfl rfl ?_
  refine px_sw rfl rfl rfl (Qx.at (cl_i (F := 3000) (d := 8) (v := 0) (h2 := xf3) (ks2 := xf2k + 1) (by decide +kernel)) ?_)
  dsimp only [xbn]
  refine px_step rfl rfl rfl ?_
  refine px_step rfl rfl rfl ?_
  refine px_step rfl rfl rfl ?_
  refine px_step rfl rfl rfl ?_
  refine px_step rfl rfl rfl ?_
  refine px_step rfl rfl rfl ?_
  refine px_step (st' := [.int 8, .ref 78]) rfl rfl rfl ?_
  refine px_vi rfl rfl rfl rfl rfl (Qx.at (cl_i (F := 3000) (d := 8) (v := 0) (h2 := xf3 ++ [(100, List.replicate 11 (.int 0))]) (ks2 := xf2k + 1 + 11) (by decide +kernel)) ?_)
  dsimp only [xbk]
  repeat' first
    | refine px_step rfl rfl rfl ?_
    | (refine px_ret rfl rfl rfl ?_; try dsimp only [xbk, xbc, xbn])
    | (refine px_thr rfl rfl rfl ?_; try dsimp only [xbk, xbc, xbn])
    | (refine px_if rfl rfl ?_ ?_ <;> intro hb <;> (try simp [xcmp, Int32.lt_iff_toInt_lt, Int32.le_iff_toInt_le] at hb) <;> first | (exfalso; omega) | skip)
    | (refine px_icmp rfl rfl ?_ ?_ <;> intro hb <;> (try simp [xcmp, Int32.lt_iff_toInt_lt, Int32.le_iff_toInt_le] at hb) <;> first | (exfalso; omega) | skip)
    | (refine px_vi rfl rfl rfl rfl rfl ?_; refine Qx.of (Or.inl rfl) (Nat.le_of_ble_eq_true rfl) ?_)
    | (refine px_vc rfl rfl rfl rfl (by decide) ?_; refine Qx.of (Or.inl rfl) (Nat.le_of_ble_eq_true rfl) ?_)
    | (refine px_st rfl rfl rfl rfl rfl ?_; refine Qx.of (Or.inl rfl) (Nat.le_of_ble_eq_true rfl) ?_)
    | (refine px_sw rfl rfl rfl ?_; refine Qx.of (Or.inr rfl) (Nat.le_of_ble_eq_true rfl) ?_)
    | (refine px_sn rfl rfl rfl rfl ?_; refine Qx.of (Or.inl rfl) (Nat.le_of_ble_eq_true rfl) ?_)
    | (refine ⟨_, _, _, rfl, Nat.le_of_ble_eq_true rfl, ?_⟩)
    | exact ⟨_, _, rfl, by simp only [xset, List.length_set, List.length_append, xf3, xf_len.2]; decide, Nat.le_of_ble_eq_true rfl⟩
set_option maxRecDepth 100000 in
set_option maxHeartbeats 4000000 in
theorem p1_m9 {x0 x2 x3 x4 x5 : Int32} : Px none (some [x0, 9, x2, x3, x4, x5]) xlaw 1343 [(4, .int 0), (3, .ref 158), (2, .ref 78), (1, .ref 4), (0, .ref 0)] [] xf3 (xf2k + 1) xfin := by
  refine px_step rfl rfl rfl ?_
  refine px_step rfl rfl rfl ?_
  refine px_step rfl rfl rfl ?_
  refine px_step rfl rfl rfl ?_
  refine px_step rfl rfl rfl ?_
  refine px_step (st' := [.int 9, .ref 4]) rfl rfl rfl ?_
  refine px_step rfl rfl rfl ?_
  refine px_sw rfl rfl rfl (Qx.at (cl_i (F := 3000) (d := 8) (v := 0) (h2 := xf3) (ks2 := xf2k + 1) (by decide +kernel)) ?_)
  dsimp only [xbn]
  refine px_step rfl rfl rfl ?_
  refine px_step rfl rfl rfl ?_
  refine px_step rfl rfl rfl ?_
  refine px_step rfl rfl rfl ?_
  refine px_step rfl rfl rfl ?_
  refine px_step rfl rfl rfl ?_
  refine px_step (st' := [.int 9, .ref 78]) rfl rfl rfl ?_
  refine px_vi rfl rfl rfl rfl rfl (Qx.at (cl_i (F := 3000) (d := 8) (v := 0) (h2 := xf3 ++ [(100, List.replicate 11 (.int 0))]) (ks2 := xf2k + 1 + 11) (by decide +kernel)) ?_)
  dsimp only [xbk]
  repeat' first
    | refine px_step rfl rfl rfl ?_
    | (refine px_ret rfl rfl rfl ?_; try dsimp only [xbk, xbc, xbn])
    | (refine px_thr rfl rfl rfl ?_; try dsimp only [xbk, xbc, xbn])
    | (refine px_if rfl rfl ?_ ?_ <;> intro hb <;> (try simp [xcmp, Int32.lt_iff_toInt_lt, Int32.le_iff_toInt_le] at hb) <;> first | (exfalso; omega) | skip)
    | (refine px_icmp rfl rfl ?_ ?_ <;> intro hb <;> (try simp [xcmp, Int32.lt_iff_toInt_lt, Int32.le_iff_toInt_le] at hb) <;> first | (exfalso; omega) | skip)
    | (refine px_vi rfl rfl rfl rfl rfl ?_; refine Qx.of (Or.inl rfl) (Nat.le_of_ble_eq_true rfl) ?_)
    | (refine px_vc rfl rfl rfl rfl (by decide) ?_; refine Qx.of (Or.inl rfl) (Nat.le_of_ble_eq_true rfl) ?_)
    | (refine px_st rfl rfl rfl rfl rfl ?_; refine Qx.of (Or.inl rfl) (Nat.le_of_ble_eq_true rfl) ?_)
    | (refine px_sw rfl rfl rfl ?_; refine Qx.of (Or.inr rfl) (Nat.le_of_ble_eq_true rfl) ?_)
    | (refine px_sn rfl rfl rfl rfl ?_; refine Qx.of (Or.inl rfl) (Nat.le_of_ble_eq_true rfl) ?_)
    | (refine ⟨_, _, _, rfl, Nat.le_of_ble_eq_true rfl, ?_⟩)
    | exact ⟨_, _, rfl, by simp only [xset, List.length_set, List.length_append, xf3, xf_len.2]; decide, Nat.le_of_ble_eq_true rfl⟩
set_option maxRecDepth 100000 in
set_option maxHeartbeats 4000000 in
theorem p1_m10 {x0 x2 x3 x4 x5 : Int32} : Px none (some [x0, 10, x2, x3, x4, x5]) xlaw 1343 [(4, .int 0), (3, .ref 158), (2, .ref 78), (1, .ref 4), (0, .ref 0)] [] xf3 (xf2k + 1) xfin := by
  refine px_step rfl rfl rfl ?_
  refine px_step rfl rfl rfl ?_
  refine px_step rfl rfl rfl ?_
  refine px_step rfl rfl rfl ?_
  refine px_step rfl rfl rfl ?_
  refine px_step (st' := [.int 10, .ref 4]) rfl rfl rfl ?_
  refine px_step rfl rfl rfl ?_
  refine px_sw rfl rfl rfl (Qx.at (cl_i (F := 3000) (d := 8) (v := 0) (h2 := xf3) (ks2 := xf2k + 1) (by decide +kernel)) ?_)
  dsimp only [xbn]
  refine px_step rfl rfl rfl ?_
  refine px_step rfl rfl rfl ?_
  refine px_step rfl rfl rfl ?_
  refine px_step rfl rfl rfl ?_
  refine px_step rfl rfl rfl ?_
  refine px_step rfl rfl rfl ?_
  refine px_step (st' := [.int 10, .ref 78]) rfl rfl rfl ?_
  refine px_vi rfl rfl rfl rfl rfl (Qx.at (cl_i (F := 3000) (d := 8) (v := 0) (h2 := xf3 ++ [(100, List.replicate 11 (.int 0))]) (ks2 := xf2k + 1 + 11) (by decide +kernel)) ?_)
  dsimp only [xbk]
  repeat' first
    | refine px_step rfl rfl rfl ?_
    | (refine px_ret rfl rfl rfl ?_; try dsimp only [xbk, xbc, xbn])
    | (refine px_thr rfl rfl rfl ?_; try dsimp only [xbk, xbc, xbn])
    | (refine px_if rfl rfl ?_ ?_ <;> intro hb <;> (try simp [xcmp, Int32.lt_iff_toInt_lt, Int32.le_iff_toInt_le] at hb) <;> first | (exfalso; omega) | skip)
    | (refine px_icmp rfl rfl ?_ ?_ <;> intro hb <;> (try simp [xcmp, Int32.lt_iff_toInt_lt, Int32.le_iff_toInt_le] at hb) <;> first | (exfalso; omega) | skip)
    | (refine px_vi rfl rfl rfl rfl rfl ?_; refine Qx.of (Or.inl rfl) (Nat.le_of_ble_eq_true rfl) ?_)
    | (refine px_vc rfl rfl rfl rfl (by decide) ?_; refine Qx.of (Or.inl rfl) (Nat.le_of_ble_eq_true rfl) ?_)
    | (refine px_st rfl rfl rfl rfl rfl ?_; refine Qx.of (Or.inl rfl) (Nat.le_of_ble_eq_true rfl) ?_)
    | (refine px_sw rfl rfl rfl ?_; refine Qx.of (Or.inr rfl) (Nat.le_of_ble_eq_true rfl) ?_)
    | (refine px_sn rfl rfl rfl rfl ?_; refine Qx.of (Or.inl rfl) (Nat.le_of_ble_eq_true rfl) ?_)
    | (refine ⟨_, _, _, rfl, Nat.le_of_ble_eq_true rfl, ?_⟩)
    | exact ⟨_, _, rfl, by simp only [xset, List.length_set, List.length_append, xf3, xf_len.2]; decide, Nat.le_of_ble_eq_true rfl⟩
set_option maxRecDepth 100000 in
set_option maxHeartbeats 4000000 in
theorem p1_c18 {x0 x1 x2 x3 x4 x5 : Int32} (hx : x0 &&& 31 = 18) : Px none (some [x0, x1, x2, x3, x4, x5]) xlaw 23 [(4, .int 0), (3, .ref 158), (2, .ref 78), (1, .ref 4), (0, .ref 0)] [] xf3 (xf2k + 1) xfin := by
  refine p1_head (pc := 1343) hx rfl ?_
  by_cases hr : x1.toInt < 0 ∨ 10 < x1.toInt
  ·
    repeat' first
      | refine px_step rfl rfl rfl ?_
      | (refine px_ret rfl rfl rfl ?_; try dsimp only [xbk, xbc, xbn])
      | (refine px_thr rfl rfl rfl ?_; try dsimp only [xbk, xbc, xbn])
      | (refine px_if rfl rfl ?_ ?_ <;> intro hb <;> (try simp [xcmp, Int32.lt_iff_toInt_lt, Int32.le_iff_toInt_le] at hb) <;> first | (exfalso; omega) | skip)
      | (refine px_icmp rfl rfl ?_ ?_ <;> intro hb <;> (try simp [xcmp, Int32.lt_iff_toInt_lt, Int32.le_iff_toInt_le] at hb) <;> first | (exfalso; omega) | skip)
      | (refine px_tsd rfl rfl hr ?_)
      | (refine px_vi rfl rfl rfl rfl rfl ?_; refine Qx.of (Or.inl rfl) (Nat.le_of_ble_eq_true rfl) ?_)
      | (refine px_vc rfl rfl rfl rfl (by decide) ?_; refine Qx.of (Or.inl rfl) (Nat.le_of_ble_eq_true rfl) ?_)
      | (refine px_st rfl rfl rfl rfl rfl ?_; refine Qx.of (Or.inl rfl) (Nat.le_of_ble_eq_true rfl) ?_)
      | (refine px_sw rfl rfl rfl ?_; refine Qx.of (Or.inr rfl) (Nat.le_of_ble_eq_true rfl) ?_)
      | (refine px_sn rfl rfl rfl rfl ?_; refine Qx.of (Or.inl rfl) (Nat.le_of_ble_eq_true rfl) ?_)
      | (refine ⟨_, _, _, rfl, Nat.le_of_ble_eq_true rfl, ?_⟩)
      | exact ⟨_, _, rfl, by simp only [xset, List.length_set, List.length_append, xf3, xf_len.2]; decide, Nat.le_of_ble_eq_true rfl⟩
  · rcases (show x1.toInt = 0 ∨ x1.toInt = 1 ∨ x1.toInt = 2 ∨ x1.toInt = 3 ∨ x1.toInt = 4 ∨ x1.toInt = 5 ∨ x1.toInt = 6 ∨ x1.toInt = 7 ∨ x1.toInt = 8 ∨ x1.toInt = 9 ∨ x1.toInt = 10 by omega) with h | h | h | h | h | h | h | h | h | h | h
    · have h9 : x1 = 0 := Int32.toInt_inj.mp (by rw [h]; rfl)
      subst h9
      exact p1_m0
    · have h9 : x1 = 1 := Int32.toInt_inj.mp (by rw [h]; rfl)
      subst h9
      exact p1_m1
    · have h9 : x1 = 2 := Int32.toInt_inj.mp (by rw [h]; rfl)
      subst h9
      exact p1_m2
    · have h9 : x1 = 3 := Int32.toInt_inj.mp (by rw [h]; rfl)
      subst h9
      exact p1_m3
    · have h9 : x1 = 4 := Int32.toInt_inj.mp (by rw [h]; rfl)
      subst h9
      exact p1_m4
    · have h9 : x1 = 5 := Int32.toInt_inj.mp (by rw [h]; rfl)
      subst h9
      exact p1_m5
    · have h9 : x1 = 6 := Int32.toInt_inj.mp (by rw [h]; rfl)
      subst h9
      exact p1_m6
    · have h9 : x1 = 7 := Int32.toInt_inj.mp (by rw [h]; rfl)
      subst h9
      exact p1_m7
    · have h9 : x1 = 8 := Int32.toInt_inj.mp (by rw [h]; rfl)
      subst h9
      exact p1_m8
    · have h9 : x1 = 9 := Int32.toInt_inj.mp (by rw [h]; rfl)
      subst h9
      exact p1_m9
    · have h9 : x1 = 10 := Int32.toInt_inj.mp (by rw [h]; rfl)
      subst h9
      exact p1_m10
end XP3
