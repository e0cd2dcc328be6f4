/-! a sheet told, mixed by draws -/
section YAZ
variable {sd : Option (List Int32)} {scl : List Int32} {μ pc : Nat} {lv : xL} {st : List Value} {h : xH} {ks : Nat} {Φ : xO → Prop}
variable {n D J : Nat} {P : Int32} {cl jc : Nat → Int32} {b c fn sh K : Nat} {M A N : Nat → Nat → List Nat}
theorem xset_app {g t : xH} {a : Nat} {e : xE} (h4 : 4 ≤ a) (ha : a < g.length + 4) : xset (g ++ t) a e = xset g a e ++ t := by
  unfold xset
  rw [List.set_append, if_pos (by omega)]
theorem cz_drawA {Nn : Nat} {e : xE} (hK : K < 10000) (hN : 0 < Nn) (hN2 : Nn < 1000) (hs : scl.length < 100000) (hZ : Zs n D J P cl jc b c fn sh K M A N h) (kk : ∀ h', Zs n D J P cl jc b c fn sh (K + 1) M A N h' → h'.length = h.length → Φ (none, some (.int (Int32.ofNat (drw scl K Nn))), h' ++ [e], ks)) : Qx (some scl) 79 [.ref b, .int (Int32.ofNat Nn)] (h ++ [e]) ks Φ := by
  have hZ9 := hZ
  obtain ⟨z1, z2, z3, z4, ⟨cx, ju, ou, cr, pe, z5⟩, _⟩ := hZ
  have hb := (xget_lt z5).2
  refine cx_draw hK hN hN2 hs ((xapp_old hb).trans z5) rfl rfl ?_
  rw [xset_app z1 hb]
  exact kk _ (hZ9.draw z5) (xset_len _ _ _)
theorem mks_set (X : List Nat) (i v : Nat) : (ivs (mks X)).set i (.int (Int32.ofNat v)) = ivs (mks (X.set i v)) := by
  show (List.map Value.int (List.map Int32.ofNat X)).set i _ = List.map Value.int (List.map Int32.ofNat (X.set i v))
  rw [List.map_set, List.map_set]
theorem xlast (g : xH) (e e' : xE) : xset (g ++ [e]) (g.length + 4) e' = g ++ [e'] := ha_set g [e] 0 e'
theorem xglast (g : xH) (e : xE) : xget (g ++ [e]) (g.length + 4) = some e := xapp_new g [e] 0
theorem getD_set {X : List Nat} {i k v : Nat} (hi : i < X.length) : (X.set i v).getD k 0 = if k = i then v else X.getD k 0 := by
  rw [List.getD_eq_getElem?_getD, List.getElem?_set]
  by_cases e : i = k
  · rw [if_pos e, if_pos hi, if_pos e.symm]
    rfl
  · rw [if_neg e, if_neg (fun z => e z.symm), List.getD_eq_getElem?_getD]
theorem okS_1 {X : List Nat} (hl : X.length = n) (hX : ∀ k, k < n → X.getD k 0 = k + 1) : okS n X := by
  refine ⟨hl, fun a ha => ?_, fun i k hi hk e => ?_⟩
  · obtain ⟨i, hi, he⟩ := List.getElem_of_mem ha
    have h1 := hX i (by omega)
    rw [List.getD_eq_getElem?_getD, List.getElem?_eq_getElem hi, he] at h1
    have h2 : a = i + 1 := h1
    omega
  · rw [hX i hi, hX k hk] at e
    omega
theorem lz_s1 {vj vd vm : Int32} (hn : n ≤ 7) (kk : ∀ X : List Nat, okS n X → Px (some scl) (some scl) 84 38 [(0, .ref b), (1, .int vj), (2, .int vd), (3, .int vm), (4, .int (Int32.ofNat n)), (5, .ref (h.length + 4)), (6, .int (Int32.ofNat n))] [] (h ++ [(100, ivs (mks X))]) ks Φ) : ∀ (m i : Nat) (X : List Nat), i + m = n → X.length = n → (∀ k, k < i → X.getD k 0 = k + 1) → Px (some scl) (some scl) 84 16 [(0, .ref b), (1, .int vj), (2, .int vd), (3, .int vm), (4, .int (Int32.ofNat n)), (5, .ref (h.length + 4)), (6, .int (Int32.ofNat i))] [] (h ++ [(100, ivs (mks X))]) ks Φ := by
  intro m
  induction m with
  | zero =>
    intro i X hi hl hX
    have e : i = n := by omega
    subst e
    refine px_run 2 (pc' := 20) (lv' := [(0, .ref b), (1, .int vj), (2, .int vd), (3, .int vm), (4, .int (Int32.ofNat i)), (5, .ref (h.length + 4)), (6, .int (Int32.ofNat i))]) (st' := [.int (Int32.ofNat i), .int (Int32.ofNat i)]) rfl ?_
    refine px_icmp rfl rfl (fun hb => ?_) (fun hb => ?_)
    · exact kk X (okS_1 hl hX)
    · have hb := xN (xc_ge _ _) hb
      omega
  | succ m ih =>
    intro i X hi hl hX
    refine px_run 2 (pc' := 20) (lv' := [(0, .ref b), (1, .int vj), (2, .int vd), (3, .int vm), (4, .int (Int32.ofNat n)), (5, .ref (h.length + 4)), (6, .int (Int32.ofNat i))]) (st' := [.int (Int32.ofNat n), .int (Int32.ofNat i)]) rfl ?_
    refine px_icmp rfl rfl (fun hb => ?_) (fun hb => ?_)
    · have hb := xT (xc_ge _ _) hb
      rw [i32_to (by omega), i32_to (by omega)] at hb
      omega
    refine px_run 5 (pc' := 31) (lv' := [(0, .ref b), (1, .int vj), (2, .int vd), (3, .int vm), (4, .int (Int32.ofNat n)), (5, .ref (h.length + 4)), (6, .int (Int32.ofNat i))]) (st' := [.int ((Int32.ofNat i) + 1), .int (Int32.ofNat i), .ref (h.length + 4)]) rfl ?_
    rw [i32_s]
    refine px_ias rfl (xglast _ _) (by rw [mks_len]; omega) (by rw [mks_len]; omega) ?_
    rw [xlast, mks_set]
    refine px_run 2 (pc' := 16) (lv' := [(6, .int ((Int32.ofNat i) + 1)), (0, .ref b), (1, .int vj), (2, .int vd), (3, .int vm), (4, .int (Int32.ofNat n)), (5, .ref (h.length + 4))]) (st' := []) rfl ?_
    rw [i32_s]
    refine px_sel [0, 1, 2, 3, 4, 5, 6] rfl ?_
    refine ih (i + 1) (X.set i (i + 1)) (by omega) (by rw [List.length_set]; exact hl) (fun k hk => ?_)
    rw [getD_set (by omega)]
    by_cases e : k = i
    · rw [if_pos e, e]
    · rw [if_neg e]
      exact hX k (by omega)
theorem lz_s2 {vj vd : Int32} {mx q : Nat} (hn1 : 1 ≤ n) (hn : n ≤ 7) (hmx : mx ≤ 3) (hK9 : K < 8000) (hs : scl.length < 100000) (kk : ∀ (h : xH) (K' : Nat) (X : List Nat), K' = K + 2 * mx → okS n X → Zs n D J P cl jc b c fn sh K' M A N h → q = h.length + 4 → Px (some scl) (some scl) 84 93 [(0, .ref b), (1, .int vj), (2, .int vd), (4, .int (Int32.ofNat n)), (5, .ref q)] [] (h ++ [(100, ivs (mks X))]) ks Φ) : ∀ (m i K' : Nat) (h : xH) (X : List Nat), i + m = mx → K' = K + 2 * i → q = h.length + 4 → okS n X → Zs n D J P cl jc b c fn sh K' M A N h → Px (some scl) (some scl) 84 41 [(0, .ref b), (1, .int vj), (2, .int vd), (3, .int (Int32.ofNat mx)), (4, .int (Int32.ofNat n)), (5, .ref q), (6, .int (Int32.ofNat i))] [] (h ++ [(100, ivs (mks X))]) ks Φ := by
  intro m
  induction m with
  | zero =>
    intro i K' h X hi hK hq hX hZ
    have e : i = mx := by omega
    subst e
    refine px_run 2 (pc' := 44) (lv' := [(0, .ref b), (1, .int vj), (2, .int vd), (3, .int (Int32.ofNat i)), (4, .int (Int32.ofNat n)), (5, .ref q), (6, .int (Int32.ofNat i))]) (st' := [.int (Int32.ofNat i), .int (Int32.ofNat i)]) rfl ?_
    refine px_icmp rfl rfl (fun hb => ?_) (fun hb => ?_)
    · refine px_sel [0, 1, 2, 4, 5] rfl ?_
      exact kk h K' X hK hX hZ hq
    · have hb := xN (xc_ge _ _) hb
      omega
  | succ m ih =>
    intro i K' h X hi hK hq hX hZ
    have x1 : drw scl K' n < n := drw_lt (by omega)
    have x2 : drw scl (K' + 1) n < n := drw_lt (by omega)
    refine px_run 2 (pc' := 44) (lv' := [(0, .ref b), (1, .int vj), (2, .int vd), (3, .int (Int32.ofNat mx)), (4, .int (Int32.ofNat n)), (5, .ref q), (6, .int (Int32.ofNat i))]) (st' := [.int (Int32.ofNat mx), .int (Int32.ofNat i)]) rfl ?_
    refine px_icmp rfl rfl (fun hb => ?_) (fun hb => ?_)
    · have hb := xT (xc_ge _ _) hb
      rw [i32_to (by omega), i32_to (by omega)] at hb
      omega
    refine px_run 2 (pc' := 50) (lv' := [(0, .ref b), (1, .int vj), (2, .int vd), (3, .int (Int32.ofNat mx)), (4, .int (Int32.ofNat n)), (5, .ref q), (6, .int (Int32.ofNat i))]) (st' := [.int (Int32.ofNat n), .ref b]) rfl ?_
    refine px_vi (as := [.ref b, .int (Int32.ofNat n)]) (rest := []) rfl rfl (hZ.app.rec rfl) rfl rfl (cz_drawA (by omega) (by omega) (by omega) hs hZ (fun h1 hZ1 l1 => ?_))
    show Px (some scl) (some scl) 84 53 _ [.int (Int32.ofNat (drw scl K' n))] (h1 ++ [(100, ivs (mks X))]) ks Φ
    refine px_run 3 (pc' := 58) (lv' := [(7, .int (Int32.ofNat (drw scl K' n))), (0, .ref b), (1, .int vj), (2, .int vd), (3, .int (Int32.ofNat mx)), (4, .int (Int32.ofNat n)), (5, .ref q), (6, .int (Int32.ofNat i))]) (st' := [.int (Int32.ofNat n), .ref b]) rfl ?_
    refine px_vi (as := [.ref b, .int (Int32.ofNat n)]) (rest := []) rfl rfl (hZ1.app.rec rfl) rfl rfl (cz_drawA (by omega) (by omega) (by omega) hs hZ1 (fun h2 hZ2 l2 => ?_))
    show Px (some scl) (some scl) 84 61 _ [.int (Int32.ofNat (drw scl (K' + 1) n))] (h2 ++ [(100, ivs (mks X))]) ks Φ
    have hq2 : q = h2.length + 4 := by omega
    have hXl := hX.1
    generalize drw scl K' n = x at *
    generalize drw scl (K' + 1) n = y at *
    subst hq2
    refine px_run 3 (pc' := 67) (lv' := [(8, .int (Int32.ofNat y)), (7, .int (Int32.ofNat x)), (0, .ref b), (1, .int vj), (2, .int vd), (3, .int (Int32.ofNat mx)), (4, .int (Int32.ofNat n)), (5, .ref (h2.length + 4)), (6, .int (Int32.ofNat i))]) (st' := [.int (Int32.ofNat x), .ref (h2.length + 4)]) rfl ?_
    refine px_ial rfl (xglast _ _) (by rw [mks_len]; omega) (mks_at (by omega)) ?_
    refine px_run 5 (pc' := 78) (lv' := [(9, .int (Int32.ofNat (X.getD x 0))), (8, .int (Int32.ofNat y)), (7, .int (Int32.ofNat x)), (0, .ref b), (1, .int vj), (2, .int vd), (3, .int (Int32.ofNat mx)), (4, .int (Int32.ofNat n)), (5, .ref (h2.length + 4)), (6, .int (Int32.ofNat i))]) (st' := [.int (Int32.ofNat y), .ref (h2.length + 4), .int (Int32.ofNat x), .ref (h2.length + 4)]) rfl ?_
    refine px_ial rfl (xglast _ _) (by rw [mks_len]; omega) (mks_at (by omega)) ?_
    refine px_ias rfl (xglast _ _) (by rw [mks_len]; omega) (by rw [mks_len]; omega) ?_
    rw [xlast, mks_set]
    refine px_run 3 (pc' := 86) (lv' := [(9, .int (Int32.ofNat (X.getD x 0))), (8, .int (Int32.ofNat y)), (7, .int (Int32.ofNat x)), (0, .ref b), (1, .int vj), (2, .int vd), (3, .int (Int32.ofNat mx)), (4, .int (Int32.ofNat n)), (5, .ref (h2.length + 4)), (6, .int (Int32.ofNat i))]) (st' := [.int (Int32.ofNat (X.getD x 0)), .int (Int32.ofNat y), .ref (h2.length + 4)]) rfl ?_
    refine px_ias rfl (xglast _ _) (by rw [mks_len, List.length_set]; omega) (by rw [mks_len, List.length_set]; omega) ?_
    rw [xlast, mks_set]
    refine px_run 2 (pc' := 41) (lv' := [(6, .int ((Int32.ofNat i) + 1)), (9, .int (Int32.ofNat (X.getD x 0))), (8, .int (Int32.ofNat y)), (7, .int (Int32.ofNat x)), (0, .ref b), (1, .int vj), (2, .int vd), (3, .int (Int32.ofNat mx)), (4, .int (Int32.ofNat n)), (5, .ref (h2.length + 4))]) (st' := []) rfl ?_
    rw [i32_s]
    refine px_sel [0, 1, 2, 3, 4, 5, 6] rfl ?_
    exact ih (i + 1) (K' + 1 + 1) h2 (swL X x y) (by omega) (by omega) rfl (okS_sw hX x1 x2) hZ2
theorem lz_n84 {b q : Nat} {v1 v2 v4 : Int32} {L : List Nat} (hL : L.length ≤ 8) (hg : xget h q = some (100, ivs (mks L))) (kk : Px (some scl) (some scl) 84 136 [(0, .ref b), (1, .int v1), (2, .int v2), (4, .int v4), (5, .ref q), (6, .int (Int32.ofNat (enc (L))))] [] h ks Φ) : ∀ i : Nat, i ≤ L.length → Px (some scl) (some scl) 84 112 [(0, .ref b), (1, .int v1), (2, .int v2), (4, .int v4), (5, .ref q), (6, .int (Int32.ofNat (enc (L.drop i)))), (7, .int (Int32.ofNat i - 1))] [] h ks Φ := by
  intro i
  induction i with
  | zero =>
    intro _
    refine px_run 1 (pc' := 114) (lv' := [(0, .ref b), (1, .int v1), (2, .int v2), (4, .int v4), (5, .ref q), (6, .int (Int32.ofNat (enc (L.drop 0)))), (7, .int (Int32.ofNat 0 - 1))]) (st' := [.int (Int32.ofNat 0 - 1)]) rfl ?_
    refine px_if rfl rfl (fun hb => ?_) (fun hb => by cases hb)
    refine px_sel [0, 1, 2, 4, 5, 6] rfl ?_
    exact kk
  | succ i ih =>
    intro hi
    rw [pred1]
    refine px_run 1 (pc' := 114) (lv' := [(0, .ref b), (1, .int v1), (2, .int v2), (4, .int v4), (5, .ref q), (6, .int (Int32.ofNat (enc (L.drop (i + 1))))), (7, .int (Int32.ofNat i))]) (st' := [.int (Int32.ofNat i)]) rfl ?_
    refine px_if rfl rfl (fun hb => ?_) (fun hb => ?_)
    · have hb := xT (xc_lt _ _) hb
      rw [i32_to (by omega), Int32.toInt_zero] at hb
      omega
    refine px_run 5 (pc' := 126) (lv' := [(0, .ref b), (1, .int v1), (2, .int v2), (4, .int v4), (5, .ref q), (6, .int (Int32.ofNat (enc (L.drop (i + 1))))), (7, .int (Int32.ofNat i))]) (st' := [.int (Int32.ofNat i), .ref q, .int (10 * (Int32.ofNat (enc (L.drop (i + 1)))))]) rfl ?_
    refine px_ial rfl hg (by rw [mks_len]; omega) (mks_at (by omega)) ?_
    refine px_run 4 (pc' := 112) (lv' := [(7, .int ((Int32.ofNat i) + (-1))), (6, .int ((10 * (Int32.ofNat (enc (L.drop (i + 1))))) + (Int32.ofNat (L.getD i 0)))), (0, .ref b), (1, .int v1), (2, .int v2), (4, .int v4), (5, .ref q)]) (st' := []) rfl ?_
    rw [ten_tab, show 10 * enc (L.drop (i + 1)) + L.getD i 0 = enc (L.drop i) by rw [enc_s (L := L) (i := i) hi, Nat.add_comm], ← Int32.sub_eq_add_neg]
    refine px_sel [0, 1, 2, 4, 5, 6, 7] rfl ?_
    exact ih (by omega)
set_option maxHeartbeats 2000000 in
theorem cz_shet {j d mx : Nat} (hn1 : 1 ≤ n) (hn : n ≤ 7) (hD : D ≤ 5) (hj : j < 7) (hd : d < D) (hmx : mx ≤ 3) (hK : K < 8000) (hs : scl.length < 100000) (hP : hds P (Int32.ofNat j)) (hM : okM n M) (hZ : Zs n D J P cl jc b c fn sh K M M N h) (kk : ∀ h' L, okS n L → Zs n D J P cl jc b c fn sh (K + 2 * mx) (upM M j d L) (upM M j d L) N h' → h'.length = h.length + 1 → Φ (none, some (.int 1), h', ks + n)) : Qx (some scl) 84 [.ref b, .int (Int32.ofNat j), .int (Int32.ofNat d), .int (Int32.ofNat mx)] h ks Φ := by
  refine Qx.of (Or.inl rfl) (Nat.le_of_ble_eq_true rfl) ?_
  refine px_run 1 (pc' := 1) (lv' := [(0, .ref b), (1, .int (Int32.ofNat j)), (2, .int (Int32.ofNat d)), (3, .int (Int32.ofNat mx))]) (st' := [.ref b]) rfl ?_
  refine px_gt rfl rfl hZ (fun _ _ _ _ _ => rfl) ?_
  refine px_al rfl hZ.2.2.2.2.2.2.2.2.1 (by decide) ?_
  rw [show (ivs (nms n)).length = n by rw [List.length_map, nms_len]]
  refine px_run 2 (pc' := 9) (lv' := [(4, .int (Int32.ofNat n)), (0, .ref b), (1, .int (Int32.ofNat j)), (2, .int (Int32.ofNat d)), (3, .int (Int32.ofNat mx))]) (st' := [.int (Int32.ofNat n)]) rfl ?_
  refine px_nai rfl (by omega) ?_
  rw [show List.replicate n (Value.int 0) = ivs (mks (List.replicate n 0)) by show _ = List.map Value.int (List.map Int32.ofNat (List.replicate n 0)); rw [List.map_replicate, List.map_replicate]; rfl]
  refine px_run 3 (pc' := 16) (lv' := [(6, .int (Int32.ofNat 0)), (5, .ref (h.length + 4)), (4, .int (Int32.ofNat n)), (0, .ref b), (1, .int (Int32.ofNat j)), (2, .int (Int32.ofNat d)), (3, .int (Int32.ofNat mx))]) (st' := []) rfl ?_
  refine px_sel [0, 1, 2, 3, 4, 5, 6] rfl ?_
  refine lz_s1 hn (fun X hX => ?_) n 0 _ (Nat.zero_add n) List.length_replicate (fun k hk => by omega)
  refine px_run 2 (pc' := 41) (lv' := [(6, .int (Int32.ofNat 0)), (0, .ref b), (1, .int (Int32.ofNat j)), (2, .int (Int32.ofNat d)), (3, .int (Int32.ofNat mx)), (4, .int (Int32.ofNat n)), (5, .ref (h.length + 4))]) (st' := []) rfl ?_
  refine px_sel [0, 1, 2, 3, 4, 5, 6] rfl ?_
  obtain ⟨q, hq⟩ : ∃ q, q = h.length + 4 := ⟨_, rfl⟩
  rw [← hq]
  refine lz_s2 (K := K) hn1 hn hmx hK hs (fun g K' X hK' hX hZ hq2 => ?_) mx 0 K h X (Nat.zero_add mx) rfl hq hX hZ
  have hlg : g.length = h.length := by omega
  have hZ1 := hZ.app (g := [(100, ivs (mks X))])
  have hqg : xget (g ++ [(100, ivs (mks X))]) q = some (100, ivs (mks X)) := by rw [hq2]; exact xglast _ _
  have hsq : sh < g.length + 4 := (xget_lt hZ.2.2.2.2.2.2.2.2.2.1).2
  obtain ⟨r, r1, r2⟩ := hZ1.2.2.2.2.2.2.2.2.2.2 j hj
  obtain ⟨r', r1', r2'⟩ := hZ.2.2.2.2.2.2.2.2.2.2 j hj
  have hrq := (xget_lt r1').2
  generalize hH : g ++ [(100, ivs (mks X))] = H at *
  have hHl : H.length = h.length + 1 := by rw [← hH, List.length_append]; simp [hlg]
  refine px_run 1 (pc' := 94) (lv' := [(0, .ref b), (1, .int (Int32.ofNat j)), (2, .int (Int32.ofNat d)), (4, .int (Int32.ofNat n)), (5, .ref q)]) (st' := [.ref b]) rfl ?_
  refine px_gt rfl rfl hZ1 (fun _ _ _ _ _ => rfl) ?_
  refine px_run 1 (pc' := 98) (lv' := [(0, .ref b), (1, .int (Int32.ofNat j)), (2, .int (Int32.ofNat d)), (4, .int (Int32.ofNat n)), (5, .ref q)]) (st' := [.int (Int32.ofNat j), .ref sh]) rfl ?_
  refine px_row rfl hj hZ1 ?_
  refine px_run 2 (pc' := 102) (lv' := [(0, .ref b), (1, .int (Int32.ofNat j)), (2, .int (Int32.ofNat d)), (4, .int (Int32.ofNat n)), (5, .ref q)]) (st' := [.ref q, .int (Int32.ofNat d), .ref (sh + 1 + j * 6)]) rfl ?_
  refine px_aas rfl r1 hqg (by simp) (by simp; omega) ?_
  have hZ2 := hZ1.up hj (show d < 5 by omega) (show sh ≤ q by omega) hqg r1
  have hq3 : xget (xset H (sh + 1 + j * 6) (103, ((List.range 5).map (fun d => Value.ref (r d))).set d (.ref q))) q = some (100, ivs (mks X)) := (xset_ne (xget_lt r1).1 (by omega)).trans hqg
  have hl3 := xset_len H (sh + 1 + j * 6) (103, ((List.range 5).map (fun d => Value.ref (r d))).set d (.ref q))
  generalize xset H (sh + 1 + j * 6) (103, ((List.range 5).map (fun d => Value.ref (r d))).set d (.ref q)) = G at *
  refine px_run 6 (pc' := 112) (lv' := [(7, .int ((Int32.ofNat n) - 1)), (6, .int (Int32.ofNat 0)), (0, .ref b), (1, .int (Int32.ofNat j)), (2, .int (Int32.ofNat d)), (4, .int (Int32.ofNat n)), (5, .ref q)]) (st' := []) rfl ?_
  refine px_sel [0, 1, 2, 4, 5, 6, 7] rfl ?_
  have hXl := hX.1
  have e0 : Int32.ofNat 0 = Int32.ofNat (enc (X.drop X.length)) := by rw [List.drop_length]; rfl
  rw [e0, show Int32.ofNat n - 1 = Int32.ofNat X.length - 1 by rw [hXl]]
  refine lz_n84 (by omega) hq3 ?_ X.length (Nat.le_refl _)
  refine px_run 1 (pc' := 137) (lv' := [(0, .ref b), (1, .int (Int32.ofNat j)), (2, .int (Int32.ofNat d)), (4, .int (Int32.ofNat n)), (5, .ref q), (6, .int (Int32.ofNat (enc X)))]) (st' := [.ref b]) rfl ?_
  refine px_gt rfl rfl hZ2 (fun _ _ _ _ _ => rfl) ?_
  refine px_run 3 (pc' := 144) (lv' := [(0, .ref b), (1, .int (Int32.ofNat j)), (2, .int (Int32.ofNat d)), (4, .int (Int32.ofNat n)), (5, .ref q), (6, .int (Int32.ofNat (enc X)))]) (st' := [.int (Int32.ofNat (enc X)), .int (Int32.ofNat d), .int (Int32.ofNat j), .ref (b + 1)]) rfl ?_
  have hZ3 := hZ2
  obtain ⟨z1, z2, z3, z4, z5, z6, ⟨s, z7, z8⟩, _⟩ := hZ3
  refine px_cls rfl rfl rfl rfl rfl rfl z7 (f_shee hn hD hj hd z8 hM hX hP (fun T hT => ?_))
  have hZ4 := hZ2.t hT
  have hl4 := yput_len G (b + 1) T
  have hMu : okM n (upM M j d X) := okM_up hM (Or.inr hX)
  show Px (some scl) (some scl) 84 147 _ [.int (shd (fun a => hdn (mM (upM M j d X)) a d))] (yput G (b + 1) T) (ks + n) Φ
  refine px_run 2 (pc' := 149) (lv' := [(0, .ref b), (1, .int (Int32.ofNat j)), (2, .int (Int32.ofNat d)), (4, .int (Int32.ofNat n)), (5, .ref q), (6, .int (Int32.ofNat (enc X)))]) (st' := [.int (Int32.ofNat d), .ref b, .int (shd (fun a => hdn (mM (upM M j d X)) a d))]) rfl ?_
  refine px_vi (as := [.ref b, .int (Int32.ofNat d)]) (rest := [.int (shd (fun a => hdn (mM (upM M j d X)) a d))]) rfl rfl (hZ4.rec rfl) rfl rfl (cz_shof (by omega) hn1 hn hMu hZ4 ?_)
  show Px (some scl) (some scl) 84 152 _ [.int (shd (fun a => hdn (mM (upM M j d X)) a d)), .int (shd (fun a => hdn (mM (upM M j d X)) a d))] (yput G (b + 1) T) (ks + n) Φ
  generalize shd (fun a => hdn (mM (upM M j d X)) a d) = R
  refine px_icmp rfl rfl (fun hx => ?_) (fun hx => ?_)
  · rw [show xcmp .ne R R = false by simp [xcmp]] at hx
    cases hx
  refine px_run 2 (pc' := 160) (lv' := [(0, .ref b), (1, .int (Int32.ofNat j)), (2, .int (Int32.ofNat d)), (4, .int (Int32.ofNat n)), (5, .ref q), (6, .int (Int32.ofNat (enc X)))]) (st' := [.int (Int32.ofNat 1)]) rfl ?_
  refine px_ret rfl rfl (xex_bool rfl (Or.inr rfl)) (kk _ X hX (by rw [← hK']; exact hZ4) (by omega))
end YAZ
