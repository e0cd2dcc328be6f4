/-! the law: a round; the four of them -/
section YBE
variable {sd : Option (List Int32)} {scl : List Int32} {μ pc : Nat} {lv : xL} {st : List Value} {h : xH} {ks : Nat} {Φ : xO → Prop}
variable {n D J : Nat} {P : Int32} {cl jc : Nat → Int32} {b c fn sh K : Nat} {M A N : Nat → Nat → List Nat}
theorem cz_wint (hn1 : 1 ≤ n) (hn : n ≤ 7) (hZ : Zs n D J P cl jc b c fn sh K M A N h) (kk : Φ (none, some (.int (wns n D (mM A) 0)), h, ks)) : Qx (some scl) 110 [.ref (b + 1), .ref fn] h ks Φ := by
  obtain ⟨z1, z2, z3, z4, z5, z6, ⟨s, z7, z8⟩, z9, y1, y2⟩ := hZ
  exact cx_winl hn1 hn z8 z7 y1 kk
theorem cz_wino (hn1 : 1 ≤ n) (hn : n ≤ 7) (hZ : Zs n D J P cl jc b c fn sh K M A N h) (kk : Φ (none, some (.int (wns n D (mM N) 0)), h, ks)) : Qx (some scl) 110 [.ref (c + 1), .ref fn] h ks Φ := by
  obtain ⟨z1, z2, z3, z4, z5, z6, z9, ⟨s, z7, z8⟩, y1, y2⟩ := hZ
  exact cx_winl hn1 hn z8 z7 y1 kk
theorem one_w : ∀ j, j < 7 → 0 ≤ ((1 : Int32) <<< (Int32.ofNat j &&& 31)).toInt ∧ ((1 : Int32) <<< (Int32.ofNat j &&& 31)).toInt < 128 := by decide +kernel
theorem wns_go {p j : Nat} (hn : n ≤ 7) (hD : D ≤ 5) (hj : j < 7) (hp : p < 128) (hh : hd (Int32.ofNat p) (Int32.ofNat j) = 1) (hb : 2 ≤ bcN (Int32.ofNat p)) (hf : frg n D (Int32.ofNat p) (mM M) ≠ 1) : wns n D (mM (goM M j)) 0 = wns n D (mM M) 0 := by
  rw [← frg_one hp hj hh hb hf]
  unfold wns
  exact wnn_congr (fun q hq => EPf_lost hn hD hj q hq)
theorem lg_same (x : Int64) : lg_cmp x x = 0 := by
  unfold lg_cmp
  rw [if_neg (fun z => by simp at z), if_pos rfl]
set_option maxHeartbeats 2000000 in
set_option maxRecDepth 20000 in
theorem lz_rB {p j d cp on ot HB : Nat} {vt vk vw vf : Int32} {x6 : Int64} (hn1 : 1 ≤ n) (hn : n ≤ 7) (hD : D ≤ 5) (hPe : P = Int32.ofNat p) (hp : p < 128) (hb2 : 2 ≤ bcN (Int32.ofNat p)) (hM : okT n D P M) (hj : j < 7) (hPj : hd (Int32.ofNat p) (Int32.ofNat j) = 1) (hcp : cp < n) (hw : vw = EPf n D (ef (1 <<< (Int32.ofNat j &&& 31)) (mM M)) cp) (hf : vf = frg n D P (mM M)) (kk : ∀ h', Zs n D J P cl jc b c fn sh K M M M h' → h'.length ≤ HB → Px (some scl) (some scl) 111 679 [(0, .ref 0), (1, .int vt), (2, .ref b), (3, .ref c), (4, .ref (b + 1)), (5, .int (Int32.ofNat n)), (6, .long x6), (8, .int vk)] [] h' ks Φ) (hh : h.length ≤ HB) (hZ : Zs n D J P cl jc b c fn sh K M M M h) : Px (some scl) (some scl) 111 527 [(0, .ref 0), (1, .int vt), (2, .ref b), (3, .ref c), (4, .ref (b + 1)), (5, .int (Int32.ofNat n)), (6, .long x6), (8, .int vk), (9, .int (Int32.ofNat j)), (10, .int (Int32.ofNat d)), (11, .int (Int32.ofNat cp)), (12, .int (Int32.ofNat on)), (13, .int (Int32.ofNat ot)), (14, .int vw), (15, .int vf)] [] h ks Φ := by
  refine px_run 2 (pc' := 530) (lv' := [(0, .ref 0), (1, .int vt), (2, .ref b), (3, .ref c), (4, .ref (b + 1)), (5, .int (Int32.ofNat n)), (6, .long x6), (8, .int vk), (9, .int (Int32.ofNat j)), (10, .int (Int32.ofNat d)), (11, .int (Int32.ofNat cp)), (12, .int (Int32.ofNat on)), (13, .int (Int32.ofNat ot)), (14, .int vw), (15, .int vf)]) (st' := [.ref b, .ref (b + 1)]) rfl ?_
  refine px_gt rfl rfl hZ (fun _ _ _ _ _ => rfl) ?_
  refine px_st (as := [.ref (b + 1), .ref fn]) (rest := []) rfl rfl rfl rfl rfl (cz_wint hn1 hn hZ ?_)
  show Px (some scl) (some scl) 111 536 _ [.int (wns n D (mM M) 0)] h ks Φ
  refine px_run 3 (pc' := 541) (lv' := [(17, .int (Int32.ofNat 0)), (16, .int (wns n D (mM M) 0)), (0, .ref 0), (1, .int vt), (2, .ref b), (3, .ref c), (4, .ref (b + 1)), (5, .int (Int32.ofNat n)), (6, .long x6), (8, .int vk), (9, .int (Int32.ofNat j)), (10, .int (Int32.ofNat d)), (11, .int (Int32.ofNat cp)), (12, .int (Int32.ofNat on)), (13, .int (Int32.ofNat ot)), (14, .int vw), (15, .int vf)]) (st' := []) rfl ?_
  refine px_sel [0, 1, 2, 3, 4, 5, 6, 8, 9, 10, 11, 12, 13, 14, 15, 16, 17] rfl ?_
  refine lz_los hn1 hn hD hM hj (fun h1 hZ1 l1 => ?_) D 0 h (Nat.zero_add D) hh (by rw [gpM_0]; exact hZ)
  rw [gpM_D hM] at hZ1
  have J621 : ∀ h2, Zs n D J P cl jc b c fn sh K M M (goM M j) h2 → h2.length ≤ HB → Px (some scl) (some scl) 111 621 [(0, .ref 0), (1, .int vt), (2, .ref b), (3, .ref c), (4, .ref (b + 1)), (5, .int (Int32.ofNat n)), (6, .long x6), (8, .int vk), (9, .int (Int32.ofNat j))] [] h2 ks Φ := fun h2 hZ2 l2 => by
    refine px_run 2 (pc' := 624) (lv' := [(17, .int (Int32.ofNat 0)), (0, .ref 0), (1, .int vt), (2, .ref b), (3, .ref c), (4, .ref (b + 1)), (5, .int (Int32.ofNat n)), (6, .long x6), (8, .int vk), (9, .int (Int32.ofNat j))]) (st' := []) rfl ?_
    refine px_sel [0, 1, 2, 3, 4, 5, 6, 8, 9, 17] rfl ?_
    refine lz_bak hn1 hn hD hM hj (fun h3 hZ3 l3 => ?_) D 0 h2 (Nat.zero_add D) l2 (by rw [bkM_0]; exact hZ2)
    rw [bkM_D hM] at hZ3
    exact kk h3 hZ3 l3
  refine px_run 1 (pc' := 583) (lv' := [(0, .ref 0), (1, .int vt), (2, .ref b), (3, .ref c), (4, .ref (b + 1)), (5, .int (Int32.ofNat n)), (6, .long x6), (8, .int vk), (9, .int (Int32.ofNat j)), (10, .int (Int32.ofNat d)), (11, .int (Int32.ofNat cp)), (12, .int (Int32.ofNat on)), (13, .int (Int32.ofNat ot)), (14, .int vw), (15, .int vf), (16, .int (wns n D (mM M) 0))]) (st' := [.ref c]) rfl ?_
  refine px_go rfl rfl hZ1 ?_
  refine px_run 2 (pc' := 589) (lv' := [(0, .ref 0), (1, .int vt), (2, .ref b), (3, .ref c), (4, .ref (b + 1)), (5, .int (Int32.ofNat n)), (6, .long x6), (8, .int vk), (9, .int (Int32.ofNat j)), (10, .int (Int32.ofNat d)), (11, .int (Int32.ofNat cp)), (12, .int (Int32.ofNat on)), (13, .int (Int32.ofNat ot)), (14, .int vw), (15, .int vf), (16, .int (wns n D (mM M) 0))]) (st' := [.int (Int32.ofNat 0), .int (Int32.ofNat cp), .ref (c + 1)]) rfl ?_
  refine pz_o (N' := goM M j) (Q := fun v => v = EPf n D (ef 0 (mM (goM M j))) cp) rfl rfl rfl rfl rfl rfl hZ1 (fun s Ψ hF k => c_res0 hn hF hcp (k _ s rfl hF)) (fun v h2 hv hZ2 l2 => ?_)
  rw [EPf_lost hn hD hj cp hcp, ← hw] at hv
  subst hv
  refine px_run 1 (pc' := 594) (lv' := [(0, .ref 0), (1, .int vt), (2, .ref b), (3, .ref c), (4, .ref (b + 1)), (5, .int (Int32.ofNat n)), (6, .long x6), (8, .int vk), (9, .int (Int32.ofNat j)), (10, .int (Int32.ofNat d)), (11, .int (Int32.ofNat cp)), (12, .int (Int32.ofNat on)), (13, .int (Int32.ofNat ot)), (14, .int v), (15, .int vf), (16, .int (wns n D (mM M) 0))]) (st' := [.int v, .int v]) rfl ?_
  refine px_icmp rfl rfl (fun hx => ?_) (fun hx => ?_)
  · rw [show xcmp .ne v v = false by simp [xcmp]] at hx
    cases hx
  refine px_run 2 (pc' := 600) (lv' := [(0, .ref 0), (1, .int vt), (2, .ref b), (3, .ref c), (4, .ref (b + 1)), (5, .int (Int32.ofNat n)), (6, .long x6), (8, .int vk), (9, .int (Int32.ofNat j)), (10, .int (Int32.ofNat d)), (11, .int (Int32.ofNat cp)), (12, .int (Int32.ofNat on)), (13, .int (Int32.ofNat ot)), (14, .int v), (15, .int vf), (16, .int (wns n D (mM M) 0))]) (st' := [.int (Int32.ofNat 1), .int vf]) rfl ?_
  refine px_icmp rfl rfl (fun hx => ?_) (fun hx => ?_)
  · refine px_sel [0, 1, 2, 3, 4, 5, 6, 8, 9] rfl ?_
    exact J621 h2 hZ2 (by omega)
  · have hne : vf ≠ 1 := fun z => by rw [z] at hx; cases hx
    rw [hf, hPe] at hne
    have hwn := wns_go (M := M) hn hD hj hp hPj hb2 hne
    refine px_run 1 (pc' := 604) (lv' := [(0, .ref 0), (1, .int vt), (2, .ref b), (3, .ref c), (4, .ref (b + 1)), (5, .int (Int32.ofNat n)), (6, .long x6), (8, .int vk), (9, .int (Int32.ofNat j)), (10, .int (Int32.ofNat d)), (11, .int (Int32.ofNat cp)), (12, .int (Int32.ofNat on)), (13, .int (Int32.ofNat ot)), (14, .int v), (15, .int vf), (16, .int (wns n D (mM M) 0))]) (st' := [.ref c]) rfl ?_
    refine px_go rfl rfl hZ2 ?_
    refine px_run 1 (pc' := 608) (lv' := [(0, .ref 0), (1, .int vt), (2, .ref b), (3, .ref c), (4, .ref (b + 1)), (5, .int (Int32.ofNat n)), (6, .long x6), (8, .int vk), (9, .int (Int32.ofNat j)), (10, .int (Int32.ofNat d)), (11, .int (Int32.ofNat cp)), (12, .int (Int32.ofNat on)), (13, .int (Int32.ofNat ot)), (14, .int v), (15, .int vf), (16, .int (wns n D (mM M) 0))]) (st' := [.ref b, .ref (c + 1)]) rfl ?_
    refine px_gt rfl rfl hZ2 (fun _ _ _ _ _ => rfl) ?_
    refine px_st (as := [.ref (c + 1), .ref fn]) (rest := []) rfl rfl rfl rfl rfl (cz_wino hn1 hn hZ2 ?_)
    show Px (some scl) (some scl) 111 614 _ [.int (wns n D (mM (goM M j)) 0)] h2 ks Φ
    refine px_run 1 (pc' := 616) (lv' := [(0, .ref 0), (1, .int vt), (2, .ref b), (3, .ref c), (4, .ref (b + 1)), (5, .int (Int32.ofNat n)), (6, .long x6), (8, .int vk), (9, .int (Int32.ofNat j)), (10, .int (Int32.ofNat d)), (11, .int (Int32.ofNat cp)), (12, .int (Int32.ofNat on)), (13, .int (Int32.ofNat ot)), (14, .int v), (15, .int vf), (16, .int (wns n D (mM M) 0))]) (st' := [.int (wns n D (mM M) 0), .int (wns n D (mM (goM M j)) 0)]) rfl ?_
    rw [hwn]
    refine px_icmp rfl rfl (fun hx => ?_) (fun hx => ?_)
    · refine px_sel [0, 1, 2, 3, 4, 5, 6, 8, 9] rfl ?_
      exact J621 h2 hZ2 (by omega)
    · rw [show xcmp .eq (wns n D (mM M) 0) (wns n D (mM M) 0) = true by simp [xcmp]] at hx
      cases hx
set_option maxHeartbeats 2000000 in
set_option maxRecDepth 20000 in
theorem lz_rnd {p HB SB : Nat} {vt vk : Int32} {x6 : Int64} (hn1 : 1 ≤ n) (hn : n ≤ 7) (hD1 : 1 ≤ D) (hD : D ≤ 5) (hPe : P = Int32.ofNat p) (hp : p < 128) (hp0 : p ≠ 0) (hb2 : 2 ≤ bcN (Int32.ofNat p)) (hs : scl.length < 100000) (hK : K < 8000) (hM : okT n D P M) (kk : ∀ (h' : xH) (ks' : Nat), Zs n D J P cl jc b c fn sh (K + 5) M M M h' → h'.length ≤ HB → ks' ≤ SB → Px (some scl) (some scl) 111 679 [(0, .ref 0), (1, .int vt), (2, .ref b), (3, .ref c), (4, .ref (b + 1)), (5, .int (Int32.ofNat n)), (6, .long x6), (8, .int vk)] [] h' ks' Φ) (hh : h.length + 1 ≤ HB) (hk : ks + 7 ≤ SB) (hZ : Zs n D J P cl jc b c fn sh K M M M h) : Px (some scl) (some scl) 111 220 [(0, .ref 0), (1, .int vt), (2, .ref b), (3, .ref c), (4, .ref (b + 1)), (5, .int (Int32.ofNat n)), (6, .long x6), (8, .int vk)] [] h ks Φ := by
  have x1 : drw scl K 7 < 7 := drw_lt (by decide)
  have x2 : drw scl (K + 1) D < D := drw_lt (by omega)
  have x3 : drw scl (K + 1 + 1) n < n := drw_lt (by omega)
  have x4 : drw scl (K + 1 + 1 + 1) n < n := drw_lt (by omega)
  have x5 : drw scl (K + 1 + 1 + 1 + 1) n < n := drw_lt (by omega)
  obtain ⟨j1, j2⟩ := pnl_tab p hp hp0 _ x1
  refine px_run 3 (pc' := 224) (lv' := [(0, .ref 0), (1, .int vt), (2, .ref b), (3, .ref c), (4, .ref (b + 1)), (5, .int (Int32.ofNat n)), (6, .long x6), (8, .int vk)]) (st' := [.int (Int32.ofNat 7), .ref b, .ref b]) rfl ?_
  refine px_vi (as := [.ref b, .int (Int32.ofNat 7)]) (rest := [.ref b]) rfl rfl (hZ.rec rfl) rfl rfl (cz_draw (by omega) (by omega) (by omega) hs hZ (fun h1 hZ1 l1 => ?_))
  show Px (some scl) (some scl) 111 227 _ [.int (Int32.ofNat (drw scl K 7)), .ref b] h1 ks Φ
  refine px_vi (as := [.ref b, .int (Int32.ofNat (drw scl K 7))]) (rest := []) rfl rfl (hZ1.rec rfl) rfl rfl (cz_panl hZ1 hPe hp hp0 x1 ?_)
  show Px (some scl) (some scl) 111 230 _ [.int (Int32.ofNat (pnl p 7 (drw scl K 7)))] h1 ks Φ
  refine px_run 3 (pc' := 234) (lv' := [(9, .int (Int32.ofNat (pnl p 7 (drw scl K 7)))), (0, .ref 0), (1, .int vt), (2, .ref b), (3, .ref c), (4, .ref (b + 1)), (5, .int (Int32.ofNat n)), (6, .long x6), (8, .int vk)]) (st' := [.ref b, .ref b]) rfl ?_
  refine px_gt rfl rfl hZ1 (fun _ _ _ _ _ => rfl) ?_
  refine px_vi (as := [.ref b, .int (Int32.ofNat D)]) (rest := []) rfl rfl (hZ1.rec rfl) rfl rfl (cz_draw (by omega) (by omega) (by omega) hs hZ1 (fun h2 hZ2 l2 => ?_))
  show Px (some scl) (some scl) 111 240 _ [.int (Int32.ofNat (drw scl (K + 1) D))] h2 ks Φ
  refine px_run 3 (pc' := 245) (lv' := [(10, .int (Int32.ofNat (drw scl (K + 1) D))), (9, .int (Int32.ofNat (pnl p 7 (drw scl K 7)))), (0, .ref 0), (1, .int vt), (2, .ref b), (3, .ref c), (4, .ref (b + 1)), (5, .int (Int32.ofNat n)), (6, .long x6), (8, .int vk)]) (st' := [.int (Int32.ofNat n), .ref b]) rfl ?_
  refine px_vi (as := [.ref b, .int (Int32.ofNat n)]) (rest := []) rfl rfl (hZ2.rec rfl) rfl rfl (cz_draw (by omega) (by omega) (by omega) hs hZ2 (fun h3 hZ3 l3 => ?_))
  show Px (some scl) (some scl) 111 248 _ [.int (Int32.ofNat (drw scl (K + 1 + 1) n))] h3 ks Φ
  refine px_run 3 (pc' := 253) (lv' := [(11, .int (Int32.ofNat (drw scl (K + 1 + 1) n))), (10, .int (Int32.ofNat (drw scl (K + 1) D))), (9, .int (Int32.ofNat (pnl p 7 (drw scl K 7)))), (0, .ref 0), (1, .int vt), (2, .ref b), (3, .ref c), (4, .ref (b + 1)), (5, .int (Int32.ofNat n)), (6, .long x6), (8, .int vk)]) (st' := [.int (Int32.ofNat n), .ref b]) rfl ?_
  refine px_vi (as := [.ref b, .int (Int32.ofNat n)]) (rest := []) rfl rfl (hZ3.rec rfl) rfl rfl (cz_draw (by omega) (by omega) (by omega) hs hZ3 (fun h4 hZ4 l4 => ?_))
  show Px (some scl) (some scl) 111 256 _ [.int (Int32.ofNat (drw scl (K + 1 + 1 + 1) n))] h4 ks Φ
  refine px_run 3 (pc' := 261) (lv' := [(12, .int (Int32.ofNat (drw scl (K + 1 + 1 + 1) n))), (11, .int (Int32.ofNat (drw scl (K + 1 + 1) n))), (10, .int (Int32.ofNat (drw scl (K + 1) D))), (9, .int (Int32.ofNat (pnl p 7 (drw scl K 7)))), (0, .ref 0), (1, .int vt), (2, .ref b), (3, .ref c), (4, .ref (b + 1)), (5, .int (Int32.ofNat n)), (6, .long x6), (8, .int vk)]) (st' := [.int (Int32.ofNat n), .ref b]) rfl ?_
  refine px_vi (as := [.ref b, .int (Int32.ofNat n)]) (rest := []) rfl rfl (hZ4.rec rfl) rfl rfl (cz_draw (by omega) (by omega) (by omega) hs hZ4 (fun h5 hZ5 l5 => ?_))
  show Px (some scl) (some scl) 111 264 _ [.int (Int32.ofNat (drw scl (K + 1 + 1 + 1 + 1) n))] h5 ks Φ
  generalize pnl p 7 (drw scl K 7) = j at *
  generalize drw scl (K + 1) D = d at *
  generalize drw scl (K + 1 + 1) n = cp at *
  generalize drw scl (K + 1 + 1 + 1) n = on at *
  generalize drw scl (K + 1 + 1 + 1 + 1) n = ot at *
  have hPj : hds P (Int32.ofNat j) := by rw [hPe]; exact hds_1 j1
  obtain ⟨w0, w1⟩ := one_w j j2
  refine px_run 6 (pc' := 274) (lv' := [(13, .int (Int32.ofNat ot)), (12, .int (Int32.ofNat on)), (11, .int (Int32.ofNat cp)), (10, .int (Int32.ofNat d)), (9, .int (Int32.ofNat j)), (0, .ref 0), (1, .int vt), (2, .ref b), (3, .ref c), (4, .ref (b + 1)), (5, .int (Int32.ofNat n)), (6, .long x6), (8, .int vk)]) (st' := [.int (Int32.ofNat cp), .int (1 <<< ((Int32.ofNat j) &&& 31)), .ref (b + 1)]) rfl ?_
  refine pz_t (v := EPf n D (ef (1 <<< (Int32.ofNat j &&& 31)) (mM M)) cp) rfl rfl rfl rfl rfl rfl hZ5 (fun s Ψ hF k => c_wout hD hn hF x3 w0 w1 (fun T fT hW => k T (finF_kept hF fT hW))) (fun h6 hZ6 l6 => ?_)
  obtain ⟨vw, hvw⟩ : ∃ v, v = EPf n D (ef (1 <<< (Int32.ofNat j &&& 31)) (mM M)) cp := ⟨_, rfl⟩
  rw [← hvw]
  refine px_run 2 (pc' := 281) (lv' := [(14, .int vw), (13, .int (Int32.ofNat ot)), (12, .int (Int32.ofNat on)), (11, .int (Int32.ofNat cp)), (10, .int (Int32.ofNat d)), (9, .int (Int32.ofNat j)), (0, .ref 0), (1, .int vt), (2, .ref b), (3, .ref c), (4, .ref (b + 1)), (5, .int (Int32.ofNat n)), (6, .long x6), (8, .int vk)]) (st' := [.ref (b + 1)]) rfl ?_
  refine pz_t (v := frg n D P (mM M)) rfl rfl rfl rfl rfl rfl hZ6 (fun s Ψ hF k => c_frag hD hn hF k) (fun h7 hZ7 l7 => ?_)
  obtain ⟨vf, hvf⟩ : ∃ v, v = frg n D P (mM M) := ⟨_, rfl⟩
  rw [← hvf]
  refine px_run 1 (pc' := 286) (lv' := [(15, .int vf), (14, .int vw), (13, .int (Int32.ofNat ot)), (12, .int (Int32.ofNat on)), (11, .int (Int32.ofNat cp)), (10, .int (Int32.ofNat d)), (9, .int (Int32.ofNat j)), (0, .ref 0), (1, .int vt), (2, .ref b), (3, .ref c), (4, .ref (b + 1)), (5, .int (Int32.ofNat n)), (6, .long x6), (8, .int vk)]) (st' := []) rfl ?_
  refine px_run 1 (pc' := 287) (lv' := [(15, .int vf), (14, .int vw), (13, .int (Int32.ofNat ot)), (12, .int (Int32.ofNat on)), (11, .int (Int32.ofNat cp)), (10, .int (Int32.ofNat d)), (9, .int (Int32.ofNat j)), (0, .ref 0), (1, .int vt), (2, .ref b), (3, .ref c), (4, .ref (b + 1)), (5, .int (Int32.ofNat n)), (6, .long x6), (8, .int vk)]) (st' := [.ref b]) rfl ?_
  refine px_gt rfl rfl hZ7 (fun _ _ _ _ _ => rfl) ?_
  refine px_run 1 (pc' := 292) (lv' := [(15, .int vf), (14, .int vw), (13, .int (Int32.ofNat ot)), (12, .int (Int32.ofNat on)), (11, .int (Int32.ofNat cp)), (10, .int (Int32.ofNat d)), (9, .int (Int32.ofNat j)), (0, .ref 0), (1, .int vt), (2, .ref b), (3, .ref c), (4, .ref (b + 1)), (5, .int (Int32.ofNat n)), (6, .long x6), (8, .int vk)]) (st' := [.int (Int32.ofNat j), .ref sh]) rfl ?_
  refine px_row rfl j2 hZ7 ?_
  refine px_run 1 (pc' := 295) (lv' := [(15, .int vf), (14, .int vw), (13, .int (Int32.ofNat ot)), (12, .int (Int32.ofNat on)), (11, .int (Int32.ofNat cp)), (10, .int (Int32.ofNat d)), (9, .int (Int32.ofNat j)), (0, .ref 0), (1, .int vt), (2, .ref b), (3, .ref c), (4, .ref (b + 1)), (5, .int (Int32.ofNat n)), (6, .long x6), (8, .int vk)]) (st' := [.int (Int32.ofNat d), .ref (sh + 1 + j * 6)]) rfl ?_
  refine px_mks rfl j2 (by omega) hZ7 (fun q hq gq => ?_)
  refine px_al rfl gq (by decide) ?_
  rw [mks_len]
  have hln := okM_len hM.1 j d
  refine px_if rfl rfl (fun hb => ?_) (fun hb => ?_)
  · refine px_sel [0, 1, 2, 3, 4, 5, 6, 8, 9, 10, 11, 12, 13, 14, 15] rfl ?_
    exact lz_rB hn1 hn hD hPe hp hb2 hM j2 j1 x3 hvw hvf (HB := HB) (fun h' hZ' l' => kk h' ks hZ' l' (by omega)) (by omega) hZ7
  · have hb := xN (xc_le _ _) hb
    rw [i32_to (by omega), Int32.toInt_zero] at hb
    have e : M j d ≠ [] := fun z => by rw [z] at hb; simp at hb
    have hS := (hM.1 j d).resolve_left e
    refine px_sel [0, 1, 2, 3, 4, 5, 6, 8, 9, 10, 11, 12, 13, 14, 15] rfl ?_
    exact lz_r2 (HB := HB) (SB := SB) hn1 hn hD hM.1 j2 x2 hPj hS x3 x4 x5 hZ7 (by omega) hk (fun h8 k8 hZ8 l8 s8 => lz_rB hn1 hn hD hPe hp hb2 hM j2 j1 x3 hvw hvf (HB := HB) (fun h' hZ' l' => kk h' k8 hZ' l' s8) l8 hZ8)
set_option maxRecDepth 20000 in
theorem lz_r4 {p KB HB SB : Nat} {vt : Int32} {x6 : Int64} (hn1 : 1 ≤ n) (hn : n ≤ 7) (hD1 : 1 ≤ D) (hD : D ≤ 5) (hPe : P = Int32.ofNat p) (hp : p < 128) (hp0 : p ≠ 0) (hb2 : 2 ≤ bcN (Int32.ofNat p)) (hs : scl.length < 100000) (hKB : KB < 8000) (hM : okT n D P M) (kk : ∀ (K' : Nat) (h' : xH) (ks' : Nat), Zs n D J P cl jc b c fn sh K' M M M h' → h'.length ≤ HB → ks' ≤ SB → Px (some scl) (some scl) 111 685 [(0, .ref 0), (1, .int vt), (2, .ref b), (3, .ref c), (4, .ref (b + 1)), (5, .int (Int32.ofNat n)), (6, .long x6)] [] h' ks' Φ) : ∀ (m9 k K : Nat) (h : xH) (ks : Nat), k + m9 = 4 → K + 5 * m9 ≤ KB → h.length + m9 ≤ HB → ks + 7 * m9 ≤ SB → Zs n D J P cl jc b c fn sh K M M M h → Px (some scl) (some scl) 111 214 [(0, .ref 0), (1, .int vt), (2, .ref b), (3, .ref c), (4, .ref (b + 1)), (5, .int (Int32.ofNat n)), (6, .long x6), (8, .int (Int32.ofNat k))] [] h ks Φ := by
  intro m9
  induction m9 with
  | zero =>
    intro k K h ks hk hK hh hks hZ
    have e : k = 4 := by omega
    subst e
    refine px_run 2 (pc' := 217) (lv' := [(0, .ref 0), (1, .int vt), (2, .ref b), (3, .ref c), (4, .ref (b + 1)), (5, .int (Int32.ofNat n)), (6, .long x6), (8, .int (Int32.ofNat 4))]) (st' := [.int (Int32.ofNat 4), .int (Int32.ofNat 4)]) rfl ?_
    refine px_icmp rfl rfl (fun hb => ?_) (fun hb => by cases hb)
    refine px_sel [0, 1, 2, 3, 4, 5, 6] rfl ?_
    exact kk K h ks hZ (by omega) (by omega)
  | succ m9 ih =>
    intro k K h ks hk hK hh hks hZ
    refine px_run 2 (pc' := 217) (lv' := [(0, .ref 0), (1, .int vt), (2, .ref b), (3, .ref c), (4, .ref (b + 1)), (5, .int (Int32.ofNat n)), (6, .long x6), (8, .int (Int32.ofNat k))]) (st' := [.int (Int32.ofNat 4), .int (Int32.ofNat k)]) rfl ?_
    refine px_icmp rfl rfl (fun hb => ?_) (fun hb => ?_)
    · have hb := xT (xc_ge _ _) hb
      rw [i32_to (by omega), i32_to (by omega)] at hb
      omega
    refine lz_rnd (HB := h.length + 1) (SB := ks + 7) hn1 hn hD1 hD hPe hp hp0 hb2 hs (by omega) hM (fun h1 k1 hZ1 l1 s1 => ?_) (Nat.le_refl _) (Nat.le_refl _) hZ
    refine px_run 2 (pc' := 214) (lv' := [(8, .int ((Int32.ofNat k) + 1)), (0, .ref 0), (1, .int vt), (2, .ref b), (3, .ref c), (4, .ref (b + 1)), (5, .int (Int32.ofNat n)), (6, .long x6)]) (st' := []) rfl ?_
    rw [i32_s]
    refine px_sel [0, 1, 2, 3, 4, 5, 6, 8] rfl ?_
    exact ih (k + 1) (K + 5) h1 k1 (by omega) (by omega) (by omega) (by omega) hZ1
set_option maxRecDepth 20000 in
theorem lz_end {HB : Nat} {vt : Int32} {x6 : Int64} (hn : n ≤ 7) (hD : D ≤ 5) (hJ : J ≤ 7) (hx : x6 = dig9 n D J P cl jc (mM M)) (kk : ∀ h', h'.length ≤ HB → Px (some scl) (some scl) 111 2 [(0, .ref 0), (1, .int (vt + 1))] [] h' ks Φ) (hh : h.length ≤ HB) (hZ : Zs n D J P cl jc b c fn sh K M M M h) : Px (some scl) (some scl) 111 685 [(0, .ref 0), (1, .int vt), (2, .ref b), (3, .ref c), (4, .ref (b + 1)), (5, .int (Int32.ofNat n)), (6, .long x6)] [] h ks Φ := by
  refine px_run 1 (pc' := 687) (lv' := [(0, .ref 0), (1, .int vt), (2, .ref b), (3, .ref c), (4, .ref (b + 1)), (5, .int (Int32.ofNat n)), (6, .long x6)]) (st' := [.ref (b + 1)]) rfl ?_
  refine pz_tl (v := dig9 n D J P cl jc (mM M)) rfl rfl rfl rfl rfl rfl hZ (fun s Ψ hF k => c_dige hD hn hF hJ k) (fun h1 hZ1 l1 => ?_)
  rw [← hx]
  refine px_run 2 (pc' := 693) (lv' := [(0, .ref 0), (1, .int vt), (2, .ref b), (3, .ref c), (4, .ref (b + 1)), (5, .int (Int32.ofNat n)), (6, .long x6)]) (st' := [.int (lg_cmp x6 x6)]) rfl ?_
  rw [lg_same]
  refine px_if rfl rfl (fun hb => by cases hb) (fun hb => ?_)
  refine px_run 1 (pc' := 697) (lv' := [(0, .ref 0), (1, .int vt), (2, .ref b), (3, .ref c), (4, .ref (b + 1)), (5, .int (Int32.ofNat n)), (6, .long x6)]) (st' := [.ref c]) rfl ?_
  refine px_go rfl rfl hZ1 ?_
  refine pz_ol (v := dig9 n D J P cl jc (mM M)) rfl rfl rfl rfl rfl rfl hZ1 (fun s Ψ hF k => c_dige hD hn hF hJ k) (fun h2 hZ2 l2 => ?_)
  rw [← hx]
  refine px_run 2 (pc' := 706) (lv' := [(0, .ref 0), (1, .int vt), (2, .ref b), (3, .ref c), (4, .ref (b + 1)), (5, .int (Int32.ofNat n)), (6, .long x6)]) (st' := [.int (lg_cmp x6 x6)]) rfl ?_
  rw [lg_same]
  refine px_if rfl rfl (fun hb => ?_) (fun hb => by cases hb)
  refine px_run 2 (pc' := 2) (lv' := [(1, .int (vt + 1)), (0, .ref 0), (2, .ref b), (3, .ref c), (4, .ref (b + 1)), (5, .int (Int32.ofNat n)), (6, .long x6)]) (st' := []) rfl ?_
  refine px_sel [0, 1] rfl ?_
  exact kk h2 (by omega)
set_option maxHeartbeats 2000000 in
set_option maxRecDepth 20000 in
theorem lz_fin9 {p : Nat} {vt : Int32} (hn1 : 1 ≤ n) (hn : n ≤ 7) (hD1 : 1 ≤ D) (hD : D ≤ 5) (hJ : J ≤ 7) (hPe : P = Int32.ofNat p) (hp : p < 128) (hp0 : p ≠ 0) (hb2 : 2 ≤ bcN (Int32.ofNat p)) (hs : scl.length < 100000) (hK : K < 6000) (kk : ∀ (h' : xH) (ks' : Nat), h'.length ≤ h.length + 14 → ks' ≤ ks + 98 → Px (some scl) (some scl) 111 2 [(0, .ref 0), (1, .int (vt + 1))] [] h' ks' Φ) (hZ : Zs n D J P cl jc b c fn sh K (fun _ _ => []) (fun _ _ => []) (fun _ _ => []) h) : Px (some scl) (some scl) 111 61 [(0, .ref 0), (1, .int vt), (2, .ref b), (3, .ref c), (4, .ref (b + 1))] [] h ks Φ := by
  refine px_run 1 (pc' := 62) (lv' := [(0, .ref 0), (1, .int vt), (2, .ref b), (3, .ref c), (4, .ref (b + 1))]) (st' := [.ref b]) rfl ?_
  refine px_gt rfl rfl hZ (fun _ _ _ _ _ => rfl) ?_
  refine px_al rfl hZ.2.2.2.2.2.2.2.2.1 (by decide) ?_
  rw [nms_ln]
  refine px_run 3 (pc' := 71) (lv' := [(6, .int (Int32.ofNat 0)), (5, .int (Int32.ofNat n)), (0, .ref 0), (1, .int vt), (2, .ref b), (3, .ref c), (4, .ref (b + 1))]) (st' := []) rfl ?_
  refine px_sel [0, 1, 2, 3, 4, 5, 6] rfl ?_
  refine lz_l1 (J := J) (cl := cl) (jc := jc) (fn := fn) (sh := sh) (N := fun _ _ => []) (KB := K + 90) (HB := h.length + 10) (SB := ks + 70) hn1 hn hD1 hD hPe hp hp0 hs (by omega) (fun K1 M h1 ks1 hK1 hM hZ1 l1 s1 => ?_) 10 0 K (fun _ _ => []) h ks rfl (by omega) (by omega) (by omega) okT_0 hZ
  refine px_run 2 (pc' := 120) (lv' := [(6, .int (Int32.ofNat 6)), (0, .ref 0), (1, .int vt), (2, .ref b), (3, .ref c), (4, .ref (b + 1)), (5, .int (Int32.ofNat n))]) (st' := []) rfl ?_
  refine px_sel [0, 1, 2, 3, 4, 5, 6] rfl ?_
  refine lz_l2 (J := J) (cl := cl) (jc := jc) (fn := fn) (sh := sh) (K := K1) (M := M) (HB := h.length + 10) hn1 hn hD hM (fun h2 hZ2 l2 => ?_) 7 h1 (Nat.le_refl _) l1 (by rw [roM_7 hM]; exact hZ1)
  refine px_run 1 (pc' := 191) (lv' := [(0, .ref 0), (1, .int vt), (2, .ref b), (3, .ref c), (4, .ref (b + 1)), (5, .int (Int32.ofNat n))]) (st' := [.ref (b + 1)]) rfl ?_
  refine pz_tl (v := dig9 n D J P cl jc (mM M)) rfl rfl rfl rfl rfl rfl hZ2 (fun s Ψ hF k => c_dige hD hn hF hJ k) (fun h3 hZ3 l3 => ?_)
  obtain ⟨x6, hx⟩ : ∃ x, x = dig9 n D J P cl jc (mM M) := ⟨_, rfl⟩
  rw [← hx]
  refine px_run 2 (pc' := 197) (lv' := [(6, .long x6), (0, .ref 0), (1, .int vt), (2, .ref b), (3, .ref c), (4, .ref (b + 1)), (5, .int (Int32.ofNat n))]) (st' := [.ref c]) rfl ?_
  refine px_go rfl rfl hZ3 ?_
  refine pz_ol (v := dig9 n D J P cl jc (mM M)) rfl rfl rfl rfl rfl rfl hZ3 (fun s Ψ hF k => c_dige hD hn hF hJ k) (fun h4 hZ4 l4 => ?_)
  rw [← hx]
  refine px_run 2 (pc' := 206) (lv' := [(6, .long x6), (0, .ref 0), (1, .int vt), (2, .ref b), (3, .ref c), (4, .ref (b + 1)), (5, .int (Int32.ofNat n))]) (st' := [.int (lg_cmp x6 x6)]) rfl ?_
  rw [lg_same]
  refine px_if rfl rfl (fun hb => ?_) (fun hb => by cases hb)
  refine px_run 2 (pc' := 214) (lv' := [(8, .int (Int32.ofNat 0)), (6, .long x6), (0, .ref 0), (1, .int vt), (2, .ref b), (3, .ref c), (4, .ref (b + 1)), (5, .int (Int32.ofNat n))]) (st' := []) rfl ?_
  refine px_sel [0, 1, 2, 3, 4, 5, 6, 8] rfl ?_
  refine lz_r4 (KB := K + 120) (HB := h.length + 14) (SB := ks + 98) hn1 hn hD1 hD hPe hp hp0 hb2 hs (by omega) hM (fun K5 h5 ks5 hZ5 l5 s5 => ?_) 4 0 K1 h4 ks1 rfl (by omega) (by omega) (by omega) hZ4
  exact lz_end (HB := h.length + 14) hn hD hJ hx (fun h6 l6 => kk h6 ks5 l6 s5) l5 hZ5
end YBE
