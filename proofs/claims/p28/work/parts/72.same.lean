/-! a sheet told to the other hall -/
section YAY
variable {sd : Option (List Int32)} {scl : List Int32} {μ pc : Nat} {lv : xL} {st : List Value} {h : xH} {ks : Nat} {Φ : xO → Prop}
variable {n D J : Nat} {P : Int32} {cl jc : Nat → Int32} {b c fn sh K : Nat} {M A N : Nat → Nat → List Nat}
theorem shd_pos {H : Nat → Int32} {j : Nat} (hH : ∀ a, a < 7 → H a = 0 ∨ H a = 1) (hj : j < 7) (h1 : H j = 1) : ∃ k, 1 ≤ k ∧ k ≤ 7 ∧ shd H = Int32.ofNat k := by
  have key : ∀ i, i ≤ 7 → ∃ k, k ≤ i ∧ (j < i → 1 ≤ k) ∧ itf (ods H) i 0 = Int32.ofNat k := by
    intro i
    induction i with
    | zero => exact fun _ => ⟨0, Nat.le_refl _, fun z => by omega, rfl⟩
    | succ i ih =>
      intro hi
      obtain ⟨k, k1, k2, k3⟩ := ih (by omega)
      have e : itf (ods H) (i + 1) 0 = ods H i (itf (ods H) i 0) := rfl
      rw [e, ods_eq, k3]
      rcases hH i (by omega) with z | z
      · rw [z]
        refine ⟨k, by omega, fun q => k2 (Nat.lt_of_le_of_ne (by omega) (fun q2 => ?_)), rfl⟩
        subst q2
        rw [z] at h1
        cases h1
      · rw [z]
        refine ⟨k + 1, by omega, fun _ => by omega, ?_⟩
        show Int32.ofNat k + 1 = _
        rw [i32_s]
  obtain ⟨k, k1, k2, k3⟩ := key 7 (Nat.le_refl _)
  exact ⟨k, k2 hj, k1, k3⟩
theorem shd_up {j d : Nat} {L : List Nat} (hn1 : 1 ≤ n) (hn : n ≤ 7) (hM : okM n M) (hL : okS n L) (hj : j < 7) (hd : d < 5) : ∃ k, 1 ≤ k ∧ k ≤ 7 ∧ shd (fun a => hdn (mM (upM M j d L)) a d) = Int32.ofNat k := by
  have hU : okM n (upM M j d L) := okM_up hM (Or.inr hL)
  refine shd_pos (j := j) (fun a ha => ?_) hj ?_
  · rw [hdn_M hn1 hn hU ha hd]
    by_cases e : (upM M j d L a d).length = 0
    · exact Or.inl (if_pos e)
    · exact Or.inr (if_neg e)
  · have e : upM M j d L j d = L := if_pos ⟨rfl, rfl⟩
    rw [hdn_M hn1 hn hU hj hd, e, if_neg (by rw [hL.1]; omega)]
theorem mks_at {L : List Nat} {i : Nat} (hi : i < L.length) : (ivs (mks L))[i]? = some (.int (Int32.ofNat (L.getD i 0))) := by
  rw [List.getElem?_map, List.getElem?_map, List.getElem?_eq_getElem hi, List.getD_eq_getElem?_getD, List.getElem?_eq_getElem hi]
  rfl
theorem lz_n109 {x q : Nat} {v1 v2 : Int32} {L : List Nat} (hL : L.length ≤ 8) (hg : xget h q = some (100, ivs (mks L))) (kk : Px (some scl) (some scl) 109 32 [(0, .ref x), (1, .int v1), (2, .int v2), (3, .ref q), (4, .int (Int32.ofNat (enc (L))))] [] h ks Φ) : ∀ i : Nat, i ≤ L.length → Px (some scl) (some scl) 109 9 [(0, .ref x), (1, .int v1), (2, .int v2), (3, .ref q), (4, .int (Int32.ofNat (enc (L.drop i)))), (5, .int (Int32.ofNat i - 1))] [] h ks Φ := by
  intro i
  induction i with
  | zero =>
    intro _
    refine px_run 1 (pc' := 11) (lv' := [(0, .ref x), (1, .int v1), (2, .int v2), (3, .ref q), (4, .int (Int32.ofNat (enc (L.drop 0)))), (5, .int (Int32.ofNat 0 - 1))]) (st' := [.int (Int32.ofNat 0 - 1)]) rfl ?_
    refine px_if rfl rfl (fun hb => ?_) (fun hb => by cases hb)
    refine px_sel [0, 1, 2, 3, 4] rfl ?_
    exact kk
  | succ i ih =>
    intro hi
    rw [pred1]
    refine px_run 1 (pc' := 11) (lv' := [(0, .ref x), (1, .int v1), (2, .int v2), (3, .ref q), (4, .int (Int32.ofNat (enc (L.drop (i + 1))))), (5, .int (Int32.ofNat i))]) (st' := [.int (Int32.ofNat i)]) rfl ?_
    refine px_if rfl rfl (fun hb => ?_) (fun hb => ?_)
    · have hb := xT (xc_lt _ _) hb
      rw [i32_to (by omega), Int32.toInt_zero] at hb
      omega
    refine px_run 5 (pc' := 22) (lv' := [(0, .ref x), (1, .int v1), (2, .int v2), (3, .ref q), (4, .int (Int32.ofNat (enc (L.drop (i + 1))))), (5, .int (Int32.ofNat i))]) (st' := [.int (Int32.ofNat i), .ref q, .int (10 * (Int32.ofNat (enc (L.drop (i + 1)))))]) rfl ?_
    refine px_ial rfl hg (by rw [mks_len]; omega) (mks_at (by omega)) ?_
    refine px_run 4 (pc' := 9) (lv' := [(5, .int ((Int32.ofNat i) + (-1))), (4, .int ((10 * (Int32.ofNat (enc (L.drop (i + 1))))) + (Int32.ofNat (L.getD i 0)))), (0, .ref x), (1, .int v1), (2, .int v2), (3, .ref q)]) (st' := []) rfl ?_
    rw [ten_tab, show 10 * enc (L.drop (i + 1)) + L.getD i 0 = enc (L.drop i) by rw [enc_s (L := L) (i := i) hi, Nat.add_comm], ← Int32.sub_eq_add_neg]
    refine px_sel [0, 1, 2, 3, 4, 5] rfl ?_
    exact ih (by omega)
set_option maxHeartbeats 1000000 in
theorem cx_same {x q j d : Nat} {s : yS} {L : List Nat} (hn1 : 1 ≤ n) (hn : n ≤ 7) (hD : D ≤ 5) (hj : j < 7) (hd : d < D) (hP : hds P (Int32.ofNat j)) (hN : okM n N) (hL : okS n L) (hg : xget h q = some (100, ivs (mks L))) (hO : Ob h x s) (hF : finF s n D J P cl jc (mM N)) (kk : ∀ s', finF s' n D J P cl jc (mM (upM N j d L)) → Φ (none, some (.int 1), yput h x s', ks)) : Qx (some scl) 109 [.ref x, .int (Int32.ofNat j), .int (Int32.ofNat d), .ref q] h ks Φ := by
  refine Qx.of (Or.inl rfl) (Nat.le_of_ble_eq_true rfl) ?_
  have hl8 : L.length ≤ 8 := by rw [hL.1]; omega
  refine px_run 3 (pc' := 4) (lv' := [(4, .int (Int32.ofNat 0)), (0, .ref x), (1, .int (Int32.ofNat j)), (2, .int (Int32.ofNat d)), (3, .ref q)]) (st' := [.ref q]) rfl ?_
  refine px_al rfl hg (by decide) ?_
  rw [mks_len]
  refine px_run 3 (pc' := 9) (lv' := [(5, .int ((Int32.ofNat L.length) - 1)), (4, .int (Int32.ofNat 0)), (0, .ref x), (1, .int (Int32.ofNat j)), (2, .int (Int32.ofNat d)), (3, .ref q)]) (st' := []) rfl ?_
  refine px_sel [0, 1, 2, 3, 4, 5] rfl ?_
  have e0 : Int32.ofNat 0 = Int32.ofNat (enc (L.drop L.length)) := by rw [List.drop_length]; rfl
  rw [e0]
  refine lz_n109 hl8 hg ?_ L.length (Nat.le_refl _)
  refine px_run 4 (pc' := 37) (lv' := [(0, .ref x), (1, .int (Int32.ofNat j)), (2, .int (Int32.ofNat d)), (3, .ref q), (4, .int (Int32.ofNat (enc L)))]) (st' := [.int (Int32.ofNat (enc L)), .int (Int32.ofNat d), .int (Int32.ofNat j), .ref x]) rfl ?_
  refine px_cls rfl rfl rfl rfl rfl rfl hO (f_shee hn hD hj hd hF hN hL hP (fun T hT => ?_))
  obtain ⟨k, k1, k2, k3⟩ := shd_up (d := d) hn1 hn hN hL hj (by omega)
  rw [k3]
  show Px (some scl) (some scl) 109 40 _ [.int (Int32.ofNat k)] (yput h x T) ks Φ
  refine px_if rfl rfl (fun hb => ?_) (fun hb => ?_)
  · have hb := xT (xc_le _ _) hb
    rw [i32_to (by omega), Int32.toInt_zero] at hb
    omega
  refine px_run 2 (pc' := 48) (lv' := [(0, .ref x), (1, .int (Int32.ofNat j)), (2, .int (Int32.ofNat d)), (3, .ref q), (4, .int (Int32.ofNat (enc L)))]) (st' := [.int (Int32.ofNat 1)]) rfl ?_
  exact px_ret rfl rfl (xex_bool rfl (Or.inr rfl)) (kk T hT)
/-- the same told to o -/
theorem cz_same {q j d : Nat} {L : List Nat} (hn1 : 1 ≤ n) (hn : n ≤ 7) (hD : D ≤ 5) (hj : j < 7) (hd : d < D) (hP : hds P (Int32.ofNat j)) (hN : okM n N) (hL : okS n L) (hg : xget h q = some (100, ivs (mks L))) (hZ : Zs n D J P cl jc b c fn sh K M A N h) (kk : ∀ h', Zs n D J P cl jc b c fn sh K M A (upM N j d L) h' → h'.length = h.length → Φ (none, some (.int 1), h', ks)) : Qx (some scl) 109 [.ref (c + 1), .int (Int32.ofNat j), .int (Int32.ofNat d), .ref q] h ks Φ := by
  have hZ9 := hZ
  obtain ⟨z1, z2, z3, z4, z5, z6, z7, ⟨s, y1, y2⟩, _⟩ := hZ
  exact cx_same hn1 hn hD hj hd hP hN hL hg y1 y2 (fun s' h1 => kk _ (hZ9.o h1) (yput_len _ _ _))
end YAY
