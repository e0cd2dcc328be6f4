/-! p1: open -/
section XP3
theorem xk_neF {a b : Int32} (h : xcmp .ne a b = false) : a = b := by
  unfold xcmp at h
  simpa using h
theorem and_m1 {x E : Int32} (hE : E = -1) (h : x &&& E = 0) : x = 0 := by
  subst hE
  simpa using h
theorem bc_0 (h : xH) (ks : Nat) : Cx none 17 [.int 0] h ks (none, some (.int 0), h, ks) := by
  have := bc_ok none 0 h ks
  rw [show bc6 0 = 0 by decide +kernel] at this
  exact this
theorem cl_s {sd : Option (List Int32)} {F d μ : Nat} {as : List Value} {h : xH} {ks : Nat} {v : Int32} (e : xoi (xcall F sd d μ as h ks) v h ks = true) : Cx sd μ as h ks (none, some (.int v), h, ks) := cl_i e
set_option maxRecDepth 100000 in
set_option maxHeartbeats 4000000 in
theorem p1_c2a {x0 x2 x3 x4 x5 : Int32} (hx : x0 &&& 31 = 2) : Px none (some [x0, 0, x2, x3, x4, x5]) xlaw 23 [(4, .int 0), (3, .ref 158), (2, .ref 78), (1, .ref 4), (0, .ref 0)] [] xf3 (xf2k + 1) xfin := by
  refine p1_head (pc := 268) hx rfl ?_
  refine px_step rfl rfl rfl ?_
  refine px_step rfl rfl rfl ?_
  refine px_step rfl rfl rfl ?_
  refine px_step rfl rfl rfl ?_
  refine px_step rfl rfl rfl ?_
  refine px_step (st' := [.int 0, .ref 4]) rfl rfl rfl ?_
  refine px_step rfl rfl rfl ?_
  refine px_step rfl rfl rfl ?_
  refine px_step rfl rfl rfl ?_
  refine px_step rfl rfl rfl ?_
  refine px_step (st' := [.int x2, .int 0, .ref 4]) rfl rfl rfl ?_
  refine px_step rfl rfl rfl ?_
  refine px_sw rfl rfl rfl ?_
  refine Qx.of (Or.inr rfl) (Nat.le_of_ble_eq_true rfl) ?_
  refine px_step rfl rfl rfl ?_
  refine px_step rfl rfl rfl ?_
  refine px_step rfl rfl rfl ?_
  refine px_step rfl rfl rfl ?_
  refine px_step rfl rfl rfl ?_
  refine px_vc rfl rfl rfl rfl (by decide) ?_
  refine Qx.of (Or.inl rfl) (Nat.le_of_ble_eq_true rfl) ?_
  refine px_step rfl rfl rfl ?_
  refine px_step rfl rfl rfl ?_
  refine px_step rfl rfl rfl ?_
  refine px_vi rfl rfl rfl rfl rfl (Qx.at (cl_s (F := 300) (d := 2) (v := 1) (by decide +kernel)) ?_)
  dsimp only [xbk, xbc, xbn]
  refine px_if rfl rfl (fun hb => by exact absurd hb (by decide +kernel)) (fun hb => ?_)
  refine px_step rfl rfl rfl ?_
  refine px_st rfl rfl rfl rfl rfl (Qx.at (bc_0 _ _) ?_)
  dsimp only [xbk, xbc, xbn]
  refine px_step rfl rfl rfl ?_
  refine px_icmp rfl rfl (fun hb => by exact absurd hb (by decide +kernel)) (fun hb => ?_)
  refine px_thr rfl rfl rfl ?_
  dsimp only [xbk, xbc, xbn]
  refine ⟨_, _, _, rfl, Nat.le_of_ble_eq_true rfl, ?_⟩
  refine px_step rfl rfl rfl ?_
  refine px_ret rfl rfl rfl ?_
  dsimp only [xbk, xbc, xbn]
  refine px_step rfl rfl rfl ?_
  refine px_step rfl rfl rfl ?_
  refine px_step rfl rfl rfl ?_
  refine px_step rfl rfl rfl ?_
  refine px_step rfl rfl rfl ?_
  refine px_step rfl rfl rfl ?_
  refine px_step (st' := [.int 0, .ref 78]) rfl rfl rfl ?_
  refine px_step rfl rfl rfl ?_
  refine px_step rfl rfl rfl ?_
  refine px_step rfl rfl rfl ?_
  refine px_step rfl rfl rfl ?_
  refine px_step (st' := [.int x2, .int 0, .ref 78]) rfl rfl rfl ?_
  refine px_vi rfl rfl rfl rfl rfl ?_
  refine Qx.of (Or.inl rfl) (Nat.le_of_ble_eq_true rfl) ?_
  refine px_step rfl rfl rfl ?_
  refine px_step rfl rfl rfl ?_
  refine px_step rfl rfl rfl ?_
  refine px_step rfl rfl rfl ?_
  refine px_if rfl rfl (fun hb => by exact absurd hb (by decide +kernel)) (fun hb => ?_)
  refine px_step rfl rfl rfl ?_
  refine px_step rfl rfl rfl ?_
  refine px_step rfl rfl rfl ?_
  refine px_step rfl rfl rfl ?_
  refine px_step rfl rfl rfl ?_
  refine px_icmp rfl rfl (fun hb => by exact absurd hb (by decide +kernel)) (fun hb => ?_)
  refine px_step rfl rfl rfl ?_
  refine px_st rfl rfl rfl rfl rfl (Qx.at (cl_s (F := 300) (d := 2) (v := 0) (by decide +kernel)) ?_)
  dsimp only [xbk, xbc, xbn]
  refine px_step rfl rfl rfl ?_
  refine px_icmp rfl rfl (fun hb => ?_) (fun hb => by exact absurd hb (by decide +kernel))
  refine px_step rfl rfl rfl ?_
  refine px_step rfl rfl rfl ?_
  refine px_vi rfl rfl rfl rfl rfl ?_
  refine Qx.of (Or.inl rfl) (Nat.le_of_ble_eq_true rfl) ?_
  refine px_step rfl rfl rfl ?_
  refine px_step rfl rfl rfl ?_
  refine px_step rfl rfl rfl ?_
  refine px_step rfl rfl rfl ?_
  refine px_ret rfl rfl rfl ?_
  dsimp only [xbk, xbc, xbn]
  refine px_ret rfl rfl rfl ?_
  dsimp only [xbk, xbc, xbn]
  refine px_step rfl rfl rfl ?_
  refine px_step rfl rfl rfl ?_
  refine px_vi rfl rfl rfl rfl rfl ?_
  refine Qx.of (Or.inl rfl) (Nat.le_of_ble_eq_true rfl) ?_
  refine px_step rfl rfl rfl ?_
  refine px_step rfl rfl rfl ?_
  refine px_ret rfl rfl rfl ?_
  dsimp only [xbk, xbc, xbn]
  refine px_step rfl rfl rfl ?_
  refine px_step rfl rfl rfl ?_
  refine px_step rfl rfl rfl ?_
  refine px_step rfl rfl rfl ?_
  refine px_step rfl rfl rfl ?_
  refine px_step rfl rfl rfl ?_
  refine px_step rfl rfl rfl ?_
  refine px_step rfl rfl rfl ?_
  refine px_step rfl rfl rfl ?_
  refine px_step (st' := [.int 6, .int 6]) rfl rfl rfl ?_
  refine px_step rfl rfl rfl ?_
  refine px_step rfl rfl rfl ?_
  refine px_icmp rfl rfl (fun hb => ?_) (fun hb => by exact absurd hb (by decide +kernel))
  refine px_step rfl rfl rfl ?_
  refine px_ret rfl rfl rfl ?_
  exact ⟨_, _, rfl, by simp only [xset, List.length_set, List.length_append, xf3, xf_len.2]; decide, Nat.le_of_ble_eq_true rfl⟩
set_option maxRecDepth 100000 in
set_option maxHeartbeats 4000000 in
theorem p1_c2b {x0 x1 x2 x3 x4 x5 : Int32} (h0 : ¬ x1 = 0) (h1 : ¬ x1.toInt = 0) (hn : x1.toInt < 0) (hx : x0 &&& 31 = 2) : Px none (some [x0, x1, x2, x3, x4, x5]) xlaw 23 [(4, .int 0), (3, .ref 158), (2, .ref 78), (1, .ref 4), (0, .ref 0)] [] xf3 (xf2k + 1) xfin := by
  refine p1_head (pc := 268) hx rfl ?_
  refine px_step rfl rfl rfl ?_
  refine px_step rfl rfl rfl ?_
  refine px_step rfl rfl rfl ?_
  refine px_step rfl rfl rfl ?_
  refine px_step rfl rfl rfl ?_
  refine px_step (st' := [.int x1, .ref 4]) rfl rfl rfl ?_
  refine px_step rfl rfl rfl ?_
  refine px_step rfl rfl rfl ?_
  refine px_step rfl rfl rfl ?_
  refine px_step rfl rfl rfl ?_
  refine px_step (st' := [.int x2, .int x1, .ref 4]) rfl rfl rfl ?_
  refine px_step rfl rfl rfl ?_
  refine px_sw rfl rfl rfl ?_
  refine Qx.of (Or.inr rfl) (Nat.le_of_ble_eq_true rfl) ?_
  refine px_step rfl rfl rfl ?_
  refine px_step rfl rfl rfl ?_
  refine px_step rfl rfl rfl ?_
  refine px_step rfl rfl rfl ?_
  refine px_step rfl rfl rfl ?_
  refine px_vc rfl rfl rfl rfl (by decide) ?_
  refine Qx.of (Or.inl rfl) (Nat.le_of_ble_eq_true rfl) ?_
  refine px_step rfl rfl rfl ?_
  refine px_step (st' := [.ref 5]) rfl rfl rfl ?_
  refine px_step rfl rfl rfl ?_
  refine px_vi rfl rfl rfl rfl rfl ?_
  refine Qx.of (Or.inl rfl) (Nat.le_of_ble_eq_true rfl) ?_
  refine px_step rfl rfl rfl ?_
  refine px_step rfl rfl rfl ?_
  refine px_step rfl rfl rfl ?_
  refine px_step (st' := [.int 0, .int 1, .int x1]) rfl rfl rfl ?_
  refine px_step rfl rfl rfl ?_
  refine px_step rfl rfl rfl ?_
  refine px_step rfl rfl rfl ?_
  refine px_step (st' := [.int (-1), .int 0, .int x1]) rfl rfl rfl ?_
  refine px_step (st' := [.int (-1), .int x1]) rfl rfl rfl ?_
  refine px_step rfl rfl rfl ?_
  refine px_if rfl rfl (fun hb => ?_) (fun hb => by exact absurd (and_m1 rfl (xk_neF hb)) h0)
  refine px_step rfl rfl rfl ?_
  refine px_ret rfl rfl rfl ?_
  dsimp only [xbk, xbc, xbn]
  refine px_if rfl rfl (fun hb => ?_) (fun hb => by exact absurd hb (by decide +kernel))
  refine px_thr rfl rfl rfl ?_
  dsimp only [xbk, xbc, xbn]
  refine ⟨_, _, _, rfl, Nat.le_of_ble_eq_true rfl, ?_⟩
  refine px_step rfl rfl rfl ?_
  refine px_ret rfl rfl rfl ?_
  dsimp only [xbk, xbc, xbn]
  refine px_step rfl rfl rfl ?_
  refine px_step rfl rfl rfl ?_
  refine px_step rfl rfl rfl ?_
  refine px_step rfl rfl rfl ?_
  refine px_step rfl rfl rfl ?_
  refine px_step rfl rfl rfl ?_
  refine px_step (st' := [.int x1, .ref 78]) rfl rfl rfl ?_
  refine px_step rfl rfl rfl ?_
  refine px_step rfl rfl rfl ?_
  refine px_step rfl rfl rfl ?_
  refine px_step rfl rfl rfl ?_
  refine px_step (st' := [.int x2, .int x1, .ref 78]) rfl rfl rfl ?_
  refine px_vi rfl rfl rfl rfl rfl ?_
  refine Qx.of (Or.inl rfl) (Nat.le_of_ble_eq_true rfl) ?_
  refine px_step rfl rfl rfl ?_
  refine px_step rfl rfl rfl ?_
  refine px_step rfl rfl rfl ?_
  refine px_step rfl rfl rfl ?_
  refine px_if rfl rfl (fun hb => ?_) (fun hb => by simp [xcmp, Int32.lt_iff_toInt_lt] at hb; omega)
  refine px_step rfl rfl rfl ?_
  refine px_step rfl rfl rfl ?_
  refine px_vi rfl rfl rfl rfl rfl ?_
  refine Qx.of (Or.inl rfl) (Nat.le_of_ble_eq_true rfl) ?_
  refine px_step rfl rfl rfl ?_
  refine px_step rfl rfl rfl ?_
  refine px_step rfl rfl rfl ?_
  refine px_step rfl rfl rfl ?_
  refine px_ret rfl rfl rfl ?_
  dsimp only [xbk, xbc, xbn]
  refine px_ret rfl rfl rfl ?_
  dsimp only [xbk, xbc, xbn]
  refine px_step rfl rfl rfl ?_
  refine px_step rfl rfl rfl ?_
  refine px_vi rfl rfl rfl rfl rfl ?_
  refine Qx.of (Or.inl rfl) (Nat.le_of_ble_eq_true rfl) ?_
  refine px_step rfl rfl rfl ?_
  refine px_step rfl rfl rfl ?_
  refine px_ret rfl rfl rfl ?_
  dsimp only [xbk, xbc, xbn]
  refine px_step rfl rfl rfl ?_
  refine px_step rfl rfl rfl ?_
  refine px_step rfl rfl rfl ?_
  refine px_step rfl rfl rfl ?_
  refine px_step rfl rfl rfl ?_
  refine px_step rfl rfl rfl ?_
  refine px_step rfl rfl rfl ?_
  refine px_step rfl rfl rfl ?_
  refine px_step rfl rfl rfl ?_
  refine px_step (st' := [.int 6, .int 6]) rfl rfl rfl ?_
  refine px_step rfl rfl rfl ?_
  refine px_step rfl rfl rfl ?_
  refine px_icmp rfl rfl (fun hb => ?_) (fun hb => by exact absurd hb (by decide +kernel))
  refine px_step rfl rfl rfl ?_
  refine px_ret rfl rfl rfl ?_
  exact ⟨_, _, rfl, by simp only [xset, List.length_set, List.length_append, xf3, xf_len.2]; decide, Nat.le_of_ble_eq_true rfl⟩
set_option maxRecDepth 100000 in
set_option maxHeartbeats 4000000 in
theorem p1_c2c {x0 x1 x2 x3 x4 x5 : Int32} (h0 : ¬ x1 = 0) (h1 : ¬ x1.toInt = 0) (hn : ¬ x1.toInt < 0) (hx : x0 &&& 31 = 2) : Px none (some [x0, x1, x2, x3, x4, x5]) xlaw 23 [(4, .int 0), (3, .ref 158), (2, .ref 78), (1, .ref 4), (0, .ref 0)] [] xf3 (xf2k + 1) xfin := by
  refine p1_head (pc := 268) hx rfl ?_
  refine px_step rfl rfl rfl ?_
  refine px_step rfl rfl rfl ?_
  refine px_step rfl rfl rfl ?_
  refine px_step rfl rfl rfl ?_
  refine px_step rfl rfl rfl ?_
  refine px_step (st' := [.int x1, .ref 4]) rfl rfl rfl ?_
  refine px_step rfl rfl rfl ?_
  refine px_step rfl rfl rfl ?_
  refine px_step rfl rfl rfl ?_
  refine px_step rfl rfl rfl ?_
  refine px_step (st' := [.int x2, .int x1, .ref 4]) rfl rfl rfl ?_
  refine px_step rfl rfl rfl ?_
  refine px_sw rfl rfl rfl ?_
  refine Qx.of (Or.inr rfl) (Nat.le_of_ble_eq_true rfl) ?_
  refine px_step rfl rfl rfl ?_
  refine px_step rfl rfl rfl ?_
  refine px_step rfl rfl rfl ?_
  refine px_step rfl rfl rfl ?_
  refine px_step rfl rfl rfl ?_
  refine px_vc rfl rfl rfl rfl (by decide) ?_
  refine Qx.of (Or.inl rfl) (Nat.le_of_ble_eq_true rfl) ?_
  refine px_step rfl rfl rfl ?_
  refine px_step (st' := [.ref 5]) rfl rfl rfl ?_
  refine px_step rfl rfl rfl ?_
  refine px_vi rfl rfl rfl rfl rfl ?_
  refine Qx.of (Or.inl rfl) (Nat.le_of_ble_eq_true rfl) ?_
  refine px_step rfl rfl rfl ?_
  refine px_step rfl rfl rfl ?_
  refine px_step rfl rfl rfl ?_
  refine px_step (st' := [.int 0, .int 1, .int x1]) rfl rfl rfl ?_
  refine px_step rfl rfl rfl ?_
  refine px_step rfl rfl rfl ?_
  refine px_step rfl rfl rfl ?_
  refine px_step (st' := [.int (-1), .int 0, .int x1]) rfl rfl rfl ?_
  refine px_step (st' := [.int (-1), .int x1]) rfl rfl rfl ?_
  refine px_step rfl rfl rfl ?_
  refine px_if rfl rfl (fun hb => ?_) (fun hb => by exact absurd (and_m1 rfl (xk_neF hb)) h0)
  refine px_step rfl rfl rfl ?_
  refine px_ret rfl rfl rfl ?_
  dsimp only [xbk, xbc, xbn]
  refine px_if rfl rfl (fun hb => ?_) (fun hb => by exact absurd hb (by decide +kernel))
  refine px_thr rfl rfl rfl ?_
  dsimp only [xbk, xbc, xbn]
  refine ⟨_, _, _, rfl, Nat.le_of_ble_eq_true rfl, ?_⟩
  refine px_step rfl rfl rfl ?_
  refine px_ret rfl rfl rfl ?_
  dsimp only [xbk, xbc, xbn]
  refine px_step rfl rfl rfl ?_
  refine px_step rfl rfl rfl ?_
  refine px_step rfl rfl rfl ?_
  refine px_step rfl rfl rfl ?_
  refine px_step rfl rfl rfl ?_
  refine px_step rfl rfl rfl ?_
  refine px_step (st' := [.int x1, .ref 78]) rfl rfl rfl ?_
  refine px_step rfl rfl rfl ?_
  refine px_step rfl rfl rfl ?_
  refine px_step rfl rfl rfl ?_
  refine px_step rfl rfl rfl ?_
  refine px_step (st' := [.int x2, .int x1, .ref 78]) rfl rfl rfl ?_
  refine px_vi rfl rfl rfl rfl rfl ?_
  refine Qx.of (Or.inl rfl) (Nat.le_of_ble_eq_true rfl) ?_
  refine px_step rfl rfl rfl ?_
  refine px_step rfl rfl rfl ?_
  refine px_step rfl rfl rfl ?_
  refine px_step rfl rfl rfl ?_
  refine px_if rfl rfl (fun hb => by simp [xcmp, Int32.lt_iff_toInt_lt] at hb; omega) (fun hb => ?_)
  refine px_step rfl rfl rfl ?_
  refine px_step rfl rfl rfl ?_
  refine px_step rfl rfl rfl ?_
  refine px_step (st' := [.int 0, .int 1, .int x1]) rfl rfl rfl ?_
  refine px_step (st' := [.int 1, .int x1]) rfl rfl rfl ?_
  refine px_icmp rfl rfl (fun hb => ?_) (fun hb => by simp [xcmp, Int32.le_iff_toInt_le] at hb; omega)
  refine px_step rfl rfl rfl ?_
  refine px_step rfl rfl rfl ?_
  refine px_vi rfl rfl rfl rfl rfl ?_
  refine Qx.of (Or.inl rfl) (Nat.le_of_ble_eq_true rfl) ?_
  refine px_step rfl rfl rfl ?_
  refine px_step rfl rfl rfl ?_
  refine px_step rfl rfl rfl ?_
  refine px_step rfl rfl rfl ?_
  refine px_ret rfl rfl rfl ?_
  dsimp only [xbk, xbc, xbn]
  refine px_ret rfl rfl rfl ?_
  dsimp only [xbk, xbc, xbn]
  refine px_step rfl rfl rfl ?_
  refine px_step rfl rfl rfl ?_
  refine px_vi rfl rfl rfl rfl rfl ?_
  refine Qx.of (Or.inl rfl) (Nat.le_of_ble_eq_true rfl) ?_
  refine px_step rfl rfl rfl ?_
  refine px_step rfl rfl rfl ?_
  refine px_ret rfl rfl rfl ?_
  dsimp only [xbk, xbc, xbn]
  refine px_step rfl rfl rfl ?_
  refine px_step rfl rfl rfl ?_
  refine px_step rfl rfl rfl ?_
  refine px_step rfl rfl rfl ?_
  refine px_step rfl rfl rfl ?_
  refine px_step rfl rfl rfl ?_
  refine px_step rfl rfl rfl ?_
  refine px_step rfl rfl rfl ?_
  refine px_step rfl rfl rfl ?_
  refine px_step (st' := [.int 6, .int 6]) rfl rfl rfl ?_
  refine px_step rfl rfl rfl ?_
  refine px_step rfl rfl rfl ?_
  refine px_icmp rfl rfl (fun hb => ?_) (fun hb => by exact absurd hb (by decide +kernel))
  refine px_step rfl rfl rfl ?_
  refine px_ret rfl rfl rfl ?_
  exact ⟨_, _, rfl, by simp only [xset, List.length_set, List.length_append, xf3, xf_len.2]; decide, Nat.le_of_ble_eq_true rfl⟩
theorem p1_c2 {x0 x1 x2 x3 x4 x5 : Int32} (hx : x0 &&& 31 = 2) : Px none (some [x0, x1, x2, x3, x4, x5]) xlaw 23 [(4, .int 0), (3, .ref 158), (2, .ref 78), (1, .ref 4), (0, .ref 0)] [] xf3 (xf2k + 1) xfin := by
  by_cases h0 : x1 = 0
  · subst h0
    exact p1_c2a hx
  · have h1 : ¬ x1.toInt = 0 := fun h => h0 (Int32.toInt_inj.mp h)
    by_cases hn : x1.toInt < 0
    · exact p1_c2b h0 h1 hn hx
    · exact p1_c2c h0 h1 hn hx
end XP3
