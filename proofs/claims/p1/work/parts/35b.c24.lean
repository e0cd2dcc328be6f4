/-! p1: digest -/
section XCJ
def xol (o : Option xO) (v : Int64) (h : xH) (ks : Nat) : Bool := match o with
  | some (none, some (.long w), h', ks') => decide (w = v) && (xheq h' h && Nat.beq ks' ks)
  | _ => false
theorem xol_ok {o : Option xO} {v : Int64} {h : xH} {ks : Nat} (e : xol o v h ks = true) : o = some (none, some (.long v), h, ks) := by
  unfold xol at e
  split at e
  · rw [Bool.and_eq_true, Bool.and_eq_true] at e
    rw [of_decide_eq_true e.1, xheq_ok e.2.1, Nat.eq_of_beq_eq_true e.2.2]
  · cases e
theorem cl_l {sd : Option (List Int32)} {F d μ : Nat} {as : List Value} {h : xH} {ks : Nat} {v : Int64} {h2 : xH} {ks2 : Nat} (e : xol (xcall F sd d μ as h ks) v h2 ks2 = true) : Cx sd μ as h ks (none, some (.long v), h2, ks2) := ⟨F, d, xol_ok e⟩
def xob (o : Option xO) (v : Int64) (a b : Nat) : Bool := match o with
  | some (none, some (.long w), h', ks') => decide (w = v) && (Nat.ble h'.length a && Nat.ble ks' b)
  | _ => false
theorem xob_ok {o : Option xO} {v : Int64} {a b : Nat} (e : xob o v a b = true) : ∃ h' ks', o = some (none, some (.long v), h', ks') ∧ h'.length ≤ a ∧ ks' ≤ b := by
  unfold xob at e
  split at e
  · rw [Bool.and_eq_true, Bool.and_eq_true] at e
    rw [of_decide_eq_true e.1]
    exact ⟨_, _, rfl, Nat.le_of_ble_eq_true e.2.1, Nat.le_of_ble_eq_true e.2.2⟩
  · cases e
end XCJ
section XP3
set_option maxRecDepth 100000 in
theorem p1_dx : Cx none 48 [.ref 4] xf3 (xf2k + 1) (none, some (.long (-2538472710692905198)), xf3, xf2k + 1) := cl_l (F := 5000) (d := 9) (by decide +kernel)
set_option maxRecDepth 100000 in
theorem p1_dm : ∃ h' ks', Cx none 196 [.ref 78] xf3 (xf2k + 1) (none, some (.long (-2538472710692905198)), h', ks') ∧ h'.length ≤ 900 ∧ ks' ≤ 90000 := by
  obtain ⟨h', ks', e, a, b⟩ := xob_ok (o := xcall 5000 none 9 196 [.ref 78] xf3 (xf2k + 1)) (v := (-2538472710692905198)) (a := 900) (b := 90000) (by decide +kernel)
  exact ⟨h', ks', ⟨5000, 9, e⟩, a, b⟩
set_option maxRecDepth 100000 in
set_option maxHeartbeats 4000000 in
theorem p1_c24 {x0 x1 x2 x3 x4 x5 : Int32} (hx : x0 &&& 31 = 24) : Px none (some [x0, x1, x2, x3, x4, x5]) xlaw 23 [(4, .int 0), (3, .ref 158), (2, .ref 78), (1, .ref 4), (0, .ref 0)] [] xf3 (xf2k + 1) xfin := by
  refine p1_head (pc := 1705) hx rfl ?_
  obtain ⟨h9, k9, hd, hl9, hk9⟩ := p1_dm
  refine px_step rfl rfl rfl ?_
  refine px_vi rfl rfl rfl rfl rfl (Qx.at p1_dx ?_)
  dsimp only [xbk]
  refine px_step rfl rfl rfl ?_
  refine px_vi rfl rfl rfl rfl rfl (Qx.at hd ?_)
  dsimp only [xbk]
  repeat' first
    | refine px_step rfl rfl rfl ?_
    | (refine px_ret rfl rfl rfl ?_; try dsimp only [xbk, xbc, xbn])
    | (refine px_thr rfl rfl rfl ?_; try dsimp only [xbk, xbc, xbn])
    | (refine px_if rfl rfl ?_ ?_ <;> intro hb <;> (try simp [xcmp, Int32.lt_iff_toInt_lt, Int32.le_iff_toInt_le] at hb) <;> first | (exfalso; omega) | skip)
    | (refine px_icmp rfl rfl ?_ ?_ <;> intro hb <;> (try simp [xcmp, Int32.lt_iff_toInt_lt, Int32.le_iff_toInt_le] at hb) <;> first | (exfalso; omega) | skip)
    | (refine px_vi rfl rfl rfl rfl rfl ?_; refine Qx.of (Or.inl rfl) (Nat.le_of_ble_eq_true rfl) ?_)
    | (refine px_vc rfl rfl rfl rfl (by decide) ?_; refine Qx.of (Or.inl rfl) (Nat.le_of_ble_eq_true rfl) ?_)
    | (refine px_st rfl rfl rfl rfl rfl ?_; refine Qx.of (Or.inl rfl) (Nat.le_of_ble_eq_true rfl) ?_)
    | (refine px_sw rfl rfl rfl ?_; refine Qx.of (Or.inr rfl) (Nat.le_of_ble_eq_true rfl) ?_)
    | (refine px_sn rfl rfl rfl rfl ?_; refine Qx.of (Or.inl rfl) (Nat.le_of_ble_eq_true rfl) ?_)
    | (refine ⟨_, _, _, rfl, Nat.le_of_ble_eq_true rfl, ?_⟩)
    | exact ⟨_, _, rfl, Nat.le_trans hl9 (by decide), Nat.le_trans hk9 (by decide)⟩
    | exact ⟨_, _, rfl, by simp only [xset, List.length_set, List.length_append, xf3, xf_len.2]; decide, Nat.le_of_ble_eq_true rfl⟩
end XP3
