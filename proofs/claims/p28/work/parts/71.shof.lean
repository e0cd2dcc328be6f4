/-! how many sheets of a dance are told -/
section YAX
variable {sd : Option (List Int32)} {scl : List Int32} {μ pc : Nat} {lv : xL} {st : List Value} {h : xH} {ks : Nat} {Φ : xO → Prop}
variable {n D J : Nat} {P : Int32} {cl jc : Nat → Int32} {b c fn sh K : Nat} {M A N : Nat → Nat → List Nat}
theorem mM_at {j d i : Nat} (hj : j < 7) (hd : d < 5) (hi : i < 8) : mM M ((j * 5 + d) * 8 + i) = Int32.ofNat ((M j d).getD i 0) := by
  unfold mM
  rw [if_pos (show (j * 5 + d) * 8 + i < 280 by omega), show ((j * 5 + d) * 8 + i) / 40 = j by omega, show ((j * 5 + d) * 8 + i) / 8 % 5 = d by omega, show ((j * 5 + d) * 8 + i) % 8 = i by omega]
theorem okM_ne {j d : Nat} (hn1 : 1 ≤ n) (hn : n ≤ 7) (hM : okM n M) (hj : j < 7) (hd : d < 5) (he : M j d ≠ []) : mM M ((j * 5 + d) * 8) ≠ 0 := by
  have e := mM_at (M := M) hj hd (show 0 < 8 by decide)
  rw [Nat.add_zero] at e
  rw [e]
  have hS := (hM j d).resolve_left he
  have hil : 0 < (M j d).length := by rw [hS.1]; omega
  rw [List.getD_eq_getElem?_getD, List.getElem?_eq_getElem hil]
  have h1 := hS.2.1 _ (List.getElem_mem hil)
  intro z
  have z2 := congrArg Int32.toInt z
  rw [Option.getD_some, i32_to (by omega), Int32.toInt_zero] at z2
  omega
theorem hdn_M {j d : Nat} (hn1 : 1 ≤ n) (hn : n ≤ 7) (hM : okM n M) (hj : j < 7) (hd : d < 5) : hdn (mM M) j d = if (M j d).length = 0 then 0 else 1 := by
  unfold hdn
  by_cases e : M j d = []
  · have e2 := mM_at (M := M) hj hd (show 0 < 8 by decide)
    rw [Nat.add_zero, e] at e2
    rw [e2, e]
    rfl
  · rw [decide_eq_false (okM_ne hn1 hn hM hj hd e), if_neg (fun z => e (List.length_eq_zero_iff.mp z))]
    rfl
theorem mks_len (L : List Nat) : (ivs (mks L)).length = L.length := by rw [List.length_map, List.length_map]
theorem lz_shn {d : Nat} {H : Nat → Int32} (hd : d < 5) (hH : ∀ j, j < 7 → H j = if (M j d).length = 0 then 0 else 1) (hn : n ≤ 7) (hM : okM n M) (hZ : Zs n D J P cl jc b c fn sh K M A N h) (kk : Φ (none, some (.int (shd H)), h, ks)) : ∀ m i : Nat, i + m = 7 → Px (some scl) (some scl) 87 14 [(0, .ref b), (1, .int (Int32.ofNat d)), (2, .int (itf (ods H) i 0)), (3, .ref sh), (4, .int (Int32.ofNat 7)), (5, .int (Int32.ofNat i))] [] h ks Φ := by
  intro m
  induction m with
  | zero =>
    intro i hi
    have e : i = 7 := by omega
    subst e
    refine px_run 2 (pc' := 18) (lv' := [(0, .ref b), (1, .int (Int32.ofNat d)), (2, .int (itf (ods H) 7 0)), (3, .ref sh), (4, .int (Int32.ofNat 7)), (5, .int (Int32.ofNat 7))]) (st' := [.int (Int32.ofNat 7), .int (Int32.ofNat 7)]) rfl ?_
    refine px_icmp rfl rfl (fun hb => ?_) (fun hb => by cases hb)
    refine px_run 1 (pc' := 50) (lv' := [(0, .ref b), (1, .int (Int32.ofNat d)), (2, .int (itf (ods H) 7 0)), (3, .ref sh), (4, .int (Int32.ofNat 7)), (5, .int (Int32.ofNat 7))]) (st' := [.int (itf (ods H) 7 0)]) rfl ?_
    exact px_ret rfl rfl (xex_int rfl) kk
  | succ m ih =>
    intro i hi
    refine px_run 2 (pc' := 18) (lv' := [(0, .ref b), (1, .int (Int32.ofNat d)), (2, .int (itf (ods H) i 0)), (3, .ref sh), (4, .int (Int32.ofNat 7)), (5, .int (Int32.ofNat i))]) (st' := [.int (Int32.ofNat 7), .int (Int32.ofNat i)]) rfl ?_
    refine px_icmp rfl rfl (fun hb => ?_) (fun hb => ?_)
    · have hb := xT (xc_ge _ _) hb
      rw [i32_to (by omega), i32_to (by omega)] at hb
      omega
    refine px_run 2 (pc' := 24) (lv' := [(0, .ref b), (1, .int (Int32.ofNat d)), (2, .int (itf (ods H) i 0)), (3, .ref sh), (4, .int (Int32.ofNat 7)), (5, .int (Int32.ofNat i))]) (st' := [.int (Int32.ofNat i), .ref sh]) rfl ?_
    refine px_row rfl (by omega) hZ ?_
    refine px_run 4 (pc' := 31) (lv' := [(6, .ref (sh + 1 + i * 6)), (0, .ref b), (1, .int (Int32.ofNat d)), (2, .int (itf (ods H) i 0)), (3, .ref sh), (4, .int (Int32.ofNat 7)), (5, .int (Int32.ofNat i))]) (st' := [.int (Int32.ofNat d), .ref (sh + 1 + i * 6), .int (itf (ods H) i 0)]) rfl ?_
    refine px_mks rfl (by omega) hd hZ (fun q hq hg => ?_)
    refine px_al rfl hg (by decide) ?_
    rw [mks_len]
    have hln := okM_len hM i d
    have hHi := hH i (by omega)
    refine px_if rfl rfl (fun hb => ?_) (fun hb => ?_)
    · have hb := xT (xc_le _ _) hb
      rw [i32_to (by omega), Int32.toInt_zero] at hb
      have e : itf (ods H) (i + 1) 0 = itf (ods H) i 0 + Int32.ofNat 0 := by
        show ods H i (itf (ods H) i 0) = _
        rw [ods_eq, hHi, if_pos (by omega)]
        exact (Int32.add_zero _).symm
      refine px_run 5 (pc' := 14) (lv' := [(5, .int ((Int32.ofNat i) + 1)), (2, .int ((itf (ods H) i 0) + (Int32.ofNat 0))), (6, .ref (sh + 1 + i * 6)), (0, .ref b), (1, .int (Int32.ofNat d)), (3, .ref sh), (4, .int (Int32.ofNat 7))]) (st' := []) rfl ?_
      rw [i32_s, ← e]
      refine px_sel [0, 1, 2, 3, 4, 5] rfl ?_
      exact ih (i + 1) (by omega)
    · have hb := xN (xc_le _ _) hb
      rw [i32_to (by omega), Int32.toInt_zero] at hb
      have e : itf (ods H) (i + 1) 0 = itf (ods H) i 0 + Int32.ofNat 1 := by
        show ods H i (itf (ods H) i 0) = _
        rw [ods_eq, hHi, if_neg (by omega)]
        rfl
      refine px_run 6 (pc' := 14) (lv' := [(5, .int ((Int32.ofNat i) + 1)), (2, .int ((itf (ods H) i 0) + (Int32.ofNat 1))), (6, .ref (sh + 1 + i * 6)), (0, .ref b), (1, .int (Int32.ofNat d)), (3, .ref sh), (4, .int (Int32.ofNat 7))]) (st' := []) rfl ?_
      rw [i32_s, ← e]
      refine px_sel [0, 1, 2, 3, 4, 5] rfl ?_
      exact ih (i + 1) (by omega)
theorem cz_shof {d : Nat} (hd : d < 5) (hn1 : 1 ≤ n) (hn : n ≤ 7) (hM : okM n M) (hZ : Zs n D J P cl jc b c fn sh K M A N h) (kk : Φ (none, some (.int (shd (fun a => hdn (mM M) a d))), h, ks)) : Qx (some scl) 87 [.ref b, .int (Int32.ofNat d)] h ks Φ := by
  refine Qx.of (Or.inl rfl) (Nat.le_of_ble_eq_true rfl) ?_
  refine px_run 3 (pc' := 3) (lv' := [(2, .int (Int32.ofNat 0)), (0, .ref b), (1, .int (Int32.ofNat d))]) (st' := [.ref b]) rfl ?_
  refine px_gt rfl rfl hZ (fun _ _ _ _ _ => rfl) ?_
  refine px_run 2 (pc' := 8) (lv' := [(3, .ref sh), (2, .int (Int32.ofNat 0)), (0, .ref b), (1, .int (Int32.ofNat d))]) (st' := [.ref sh]) rfl ?_
  have y1 := hZ.2.2.2.2.2.2.2.2.2.1
  refine px_al rfl y1 (by decide) ?_
  refine px_run 3 (pc' := 14) (lv' := [(5, .int (Int32.ofNat 0)), (4, .int (Int32.ofNat 7)), (3, .ref sh), (2, .int (Int32.ofNat 0)), (0, .ref b), (1, .int (Int32.ofNat d))]) (st' := []) rfl ?_
  refine px_sel [0, 1, 2, 3, 4, 5] rfl ?_
  exact lz_shn (H := fun a => hdn (mM M) a d) hd (fun j hj => hdn_M hn1 hn hM hj hd) hn hM hZ kk 7 0 rfl
end YAX
