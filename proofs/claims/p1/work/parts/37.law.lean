/-! p1: the claim -/
section XP4
theorem and31 (x : Int32) : ∃ k : Nat, k < 32 ∧ x &&& 31 = Int32.ofNat k := by
  refine ⟨(x &&& 31).toBitVec.toNat, ?_, ?_⟩
  · have h1 : (x &&& 31).toBitVec.toNat = x.toBitVec.toNat &&& 31 := by
      rw [Int32.toBitVec_and, BitVec.toNat_and]
      rfl
    have h2 : x.toBitVec.toNat &&& 31 ≤ 31 := Nat.and_le_right
    omega
  · apply Int32.toBitVec_inj.mp
    rw [Int32.toBitVec_ofNat', BitVec.ofNat_toNat, BitVec.setWidth_eq]
theorem p1_six {x0 x1 x2 x3 x4 x5 : Int32} : Px none (some [x0, x1, x2, x3, x4, x5]) xlaw 23 [(4, .int 0), (3, .ref 158), (2, .ref 78), (1, .ref 4), (0, .ref 0)] [] xf3 (xf2k + 1) xfin := by
  obtain ⟨k, hk, hx⟩ := and31 x0
  rcases (show k = 0 ∨ k = 1 ∨ k = 2 ∨ k = 3 ∨ k = 4 ∨ k = 5 ∨ k = 6 ∨ k = 7 ∨ k = 8 ∨ k = 9 ∨ k = 10 ∨ k = 11 ∨ k = 12 ∨ k = 13 ∨ k = 14 ∨ k = 15 ∨ k = 16 ∨ k = 17 ∨ k = 18 ∨ k = 19 ∨ k = 20 ∨ k = 21 ∨ k = 22 ∨ k = 23 ∨ k = 24 ∨ k = 25 ∨ k = 26 ∨ k = 27 ∨ k = 28 ∨ k = 29 ∨ k = 30 ∨ k = 31 by omega) with rfl | rfl | rfl | rfl | rfl | rfl | rfl | rfl | rfl | rfl | rfl | rfl | rfl | rfl | rfl | rfl | rfl | rfl | rfl | rfl | rfl | rfl | rfl | rfl | rfl | rfl | rfl | rfl | rfl | rfl | rfl | rfl
  · exact p1_c0 hx
  · exact p1_c1 hx
  · exact p1_c2 hx
  · exact p1_c3 hx
  · exact p1_c4 hx
  · exact p1_c5 hx
  · exact p1_c6 hx
  · exact p1_c7 hx
  · exact p1_c8 hx
  · exact p1_c9 hx
  · exact p1_c10 hx
  · exact p1_c11 hx
  · exact p1_c12 hx
  · exact p1_c13 hx
  · exact p1_c14 hx
  · exact p1_c15 hx
  · exact p1_c16 hx
  · exact p1_c17 hx
  · exact p1_c18 hx
  · exact p1_c19 hx
  · exact p1_c20 hx
  · exact p1_c21 hx
  · exact p1_c22 hx
  · exact p1_c23 hx
  · exact p1_c24 hx
  · exact p1_c25 hx
  · exact p1_c26 hx
  · exact p1_c27 hx
  · exact p1_c28 hx
  · exact p1_c29 hx
  · exact p1_c30 hx
  · exact p1_c31 hx
set_option maxRecDepth 100000 in
theorem p1_f0 : Px none (some []) xlaw 23 [(4, .int 0), (3, .ref 158), (2, .ref 78), (1, .ref 4), (0, .ref 0)] [] xf3 (xf2k + 1) xfin := by
  refine px_step (pc' := 25) (st' := [.int 0]) rfl rfl rfl ?_
  refine px_step (pc' := 26) (st' := [.ref 0, .int 0]) rfl rfl rfl ?_
  refine px_step (pc' := 27) (st' := [.int 0, .int 0]) rfl rfl rfl ?_
  refine px_step (pc' := 29) (st' := [.int 6, .int 0, .int 0]) rfl rfl rfl ?_
  refine px_step (pc' := 30) (st' := [.int (-6), .int 0]) rfl rfl rfl ?_
  refine px_step (pc' := 1725) (st' := []) rfl rfl rfl ?_
  refine px_step (pc' := 1726) (st' := [.int 1]) rfl rfl rfl ?_
  refine px_ret (r := some (.int 1)) rfl rfl rfl ?_
  exact ⟨_, _, rfl, by simp only [xset, List.length_set, List.length_append, xf3, xf_len.2]; decide, Nat.le_of_ble_eq_true rfl⟩
set_option maxRecDepth 100000 in
theorem p1_f1 {x0 : Int32} : Px none (some [x0]) xlaw 23 [(4, .int 0), (3, .ref 158), (2, .ref 78), (1, .ref 4), (0, .ref 0)] [] xf3 (xf2k + 1) xfin := by
  refine px_step (pc' := 25) (st' := [.int 0]) rfl rfl rfl ?_
  refine px_step (pc' := 26) (st' := [.ref 0, .int 0]) rfl rfl rfl ?_
  refine px_step (pc' := 27) (st' := [.int 1, .int 0]) rfl rfl rfl ?_
  refine px_step (pc' := 29) (st' := [.int 6, .int 1, .int 0]) rfl rfl rfl ?_
  refine px_step (pc' := 30) (st' := [.int (-5), .int 0]) rfl rfl rfl ?_
  refine px_step (pc' := 1725) (st' := []) rfl rfl rfl ?_
  refine px_step (pc' := 1726) (st' := [.int 1]) rfl rfl rfl ?_
  refine px_ret (r := some (.int 1)) rfl rfl rfl ?_
  exact ⟨_, _, rfl, by simp only [xset, List.length_set, List.length_append, xf3, xf_len.2]; decide, Nat.le_of_ble_eq_true rfl⟩
set_option maxRecDepth 100000 in
theorem p1_f2 {x0 x1 : Int32} : Px none (some [x0, x1]) xlaw 23 [(4, .int 0), (3, .ref 158), (2, .ref 78), (1, .ref 4), (0, .ref 0)] [] xf3 (xf2k + 1) xfin := by
  refine px_step (pc' := 25) (st' := [.int 0]) rfl rfl rfl ?_
  refine px_step (pc' := 26) (st' := [.ref 0, .int 0]) rfl rfl rfl ?_
  refine px_step (pc' := 27) (st' := [.int 2, .int 0]) rfl rfl rfl ?_
  refine px_step (pc' := 29) (st' := [.int 6, .int 2, .int 0]) rfl rfl rfl ?_
  refine px_step (pc' := 30) (st' := [.int (-4), .int 0]) rfl rfl rfl ?_
  refine px_step (pc' := 1725) (st' := []) rfl rfl rfl ?_
  refine px_step (pc' := 1726) (st' := [.int 1]) rfl rfl rfl ?_
  refine px_ret (r := some (.int 1)) rfl rfl rfl ?_
  exact ⟨_, _, rfl, by simp only [xset, List.length_set, List.length_append, xf3, xf_len.2]; decide, Nat.le_of_ble_eq_true rfl⟩
set_option maxRecDepth 100000 in
theorem p1_f3 {x0 x1 x2 : Int32} : Px none (some [x0, x1, x2]) xlaw 23 [(4, .int 0), (3, .ref 158), (2, .ref 78), (1, .ref 4), (0, .ref 0)] [] xf3 (xf2k + 1) xfin := by
  refine px_step (pc' := 25) (st' := [.int 0]) rfl rfl rfl ?_
  refine px_step (pc' := 26) (st' := [.ref 0, .int 0]) rfl rfl rfl ?_
  refine px_step (pc' := 27) (st' := [.int 3, .int 0]) rfl rfl rfl ?_
  refine px_step (pc' := 29) (st' := [.int 6, .int 3, .int 0]) rfl rfl rfl ?_
  refine px_step (pc' := 30) (st' := [.int (-3), .int 0]) rfl rfl rfl ?_
  refine px_step (pc' := 1725) (st' := []) rfl rfl rfl ?_
  refine px_step (pc' := 1726) (st' := [.int 1]) rfl rfl rfl ?_
  refine px_ret (r := some (.int 1)) rfl rfl rfl ?_
  exact ⟨_, _, rfl, by simp only [xset, List.length_set, List.length_append, xf3, xf_len.2]; decide, Nat.le_of_ble_eq_true rfl⟩
set_option maxRecDepth 100000 in
theorem p1_f4 {x0 x1 x2 x3 : Int32} : Px none (some [x0, x1, x2, x3]) xlaw 23 [(4, .int 0), (3, .ref 158), (2, .ref 78), (1, .ref 4), (0, .ref 0)] [] xf3 (xf2k + 1) xfin := by
  refine px_step (pc' := 25) (st' := [.int 0]) rfl rfl rfl ?_
  refine px_step (pc' := 26) (st' := [.ref 0, .int 0]) rfl rfl rfl ?_
  refine px_step (pc' := 27) (st' := [.int 4, .int 0]) rfl rfl rfl ?_
  refine px_step (pc' := 29) (st' := [.int 6, .int 4, .int 0]) rfl rfl rfl ?_
  refine px_step (pc' := 30) (st' := [.int (-2), .int 0]) rfl rfl rfl ?_
  refine px_step (pc' := 1725) (st' := []) rfl rfl rfl ?_
  refine px_step (pc' := 1726) (st' := [.int 1]) rfl rfl rfl ?_
  refine px_ret (r := some (.int 1)) rfl rfl rfl ?_
  exact ⟨_, _, rfl, by simp only [xset, List.length_set, List.length_append, xf3, xf_len.2]; decide, Nat.le_of_ble_eq_true rfl⟩
set_option maxRecDepth 100000 in
theorem p1_f5 {x0 x1 x2 x3 x4 : Int32} : Px none (some [x0, x1, x2, x3, x4]) xlaw 23 [(4, .int 0), (3, .ref 158), (2, .ref 78), (1, .ref 4), (0, .ref 0)] [] xf3 (xf2k + 1) xfin := by
  refine px_step (pc' := 25) (st' := [.int 0]) rfl rfl rfl ?_
  refine px_step (pc' := 26) (st' := [.ref 0, .int 0]) rfl rfl rfl ?_
  refine px_step (pc' := 27) (st' := [.int 5, .int 0]) rfl rfl rfl ?_
  refine px_step (pc' := 29) (st' := [.int 6, .int 5, .int 0]) rfl rfl rfl ?_
  refine px_step (pc' := 30) (st' := [.int (-1), .int 0]) rfl rfl rfl ?_
  refine px_step (pc' := 1725) (st' := []) rfl rfl rfl ?_
  refine px_step (pc' := 1726) (st' := [.int 1]) rfl rfl rfl ?_
  refine px_ret (r := some (.int 1)) rfl rfl rfl ?_
  exact ⟨_, _, rfl, by simp only [xset, List.length_set, List.length_append, xf3, xf_len.2]; decide, Nat.le_of_ble_eq_true rfl⟩
theorem p1_all : ∀ {scl : List Int32}, scl.length ≤ 6 → Px none (some scl) xlaw 23 [(4, .int 0), (3, .ref 158), (2, .ref 78), (1, .ref 4), (0, .ref 0)] [] xf3 (xf2k + 1) xfin
  | [], _ => p1_f0
  | [_], _ => p1_f1
  | [_, _], _ => p1_f2
  | [_, _, _], _ => p1_f3
  | [_, _, _, _], _ => p1_f4
  | [_, _, _, _, _], _ => p1_f5
  | [_, _, _, _, _, _], _ => p1_six
  | _ :: _ :: _ :: _ :: _ :: _ :: _ :: _, h => by simp at h
theorem whole_start {p : Program} {e : Env} {s : State} {m : MethodId} {below : List Frame} {meth : Method} {c : Code} (l : Launch) (hflags : l.flags = flags0) {b L : Nat} {xs : Nat → Int32} (hL : L ≤ 6) (C0 : lw_At p s m meth c b L xs) : W p l e room_1 s m #[Value.ref b] below meth c s.heap [] 0 0 (lw_Z below #[Value.ref b] s) (entryFrame m ([Value.ref b] : List Value).toArray 9) := by
  have hlen : ((List.range L).map xs).length = L := by simp
  obtain ⟨out, ⟨F, d, n, he⟩, h', ks', rfl, hc, hs⟩ := p1_pre (p1_all (scl := (List.range L).map xs) (by rw [hlen]; exact hL))
  refine x_law l hflags C0 hlen (fun j hj => ?_) he (Nat.le_trans hc (Nat.le_of_ble_eq_true rfl)) (Nat.le_trans hs (Nat.le_of_ble_eq_true rfl))
  simp [List.getD, List.getElem?_map, List.getElem?_range hj]
end XP4
